section
/-! ===== BEGIN words of one list among another's, by their places ===== -/
theorem goodIn_r {big : List Cond} (ws : List Cond) (ps : List Nat) (hp : ws = ps.filterMap (fun i => big[i]?)) (h : ws.all goodWord = true) : GoodIn big ws := by
  intro w hw
  have h1 := List.all_eq_true.mp h w hw
  rw [hp] at hw
  obtain ⟨i, -, hi⟩ := List.mem_filterMap.mp hw
  have hm : w ∈ big := by first | exact List.mem_of_getElem? hi | exact List.getElem?_mem hi
  exact ⟨hm, good_of_word h1⟩
theorem goodIn_app {big a b : List Cond} (ha : GoodIn big a) (hb : GoodIn big b) : GoodIn big (a ++ b) := fun w h => (List.mem_append.mp h).elim (ha w) (hb w)
theorem goodIn_ca {big a b : List Cond} {c : Cond} (ha : GoodIn big (c :: a)) (hb : GoodIn big b) : GoodIn big (c :: (a ++ b)) := fun w h => (List.mem_cons.mp h).elim (fun e => ha w (List.mem_cons.mpr (Or.inl e))) (fun h => (List.mem_append.mp h).elim (fun h => ha w (List.mem_cons.mpr (Or.inr h))) (hb w))
theorem goodIn_sub {big ws : List Cond} (hm : ∀ w ∈ ws, w ∈ big) (h : ws.all goodWord = true) : GoodIn big ws := fun w hw => ⟨hm w hw, good_of_word (List.all_eq_true.mp h w hw)⟩
/-! ===== END ===== -/
/-! ===== BEGIN exceptions that leave a method, and their catching by the caller (launches without stack traces) ===== -/
section VXA
/-! The laws vx_back, vx_callV, vx_callS, vx_callSW, vx_throw0, vx_throwS follow proofs of the library, with one case more: JvmDerived/Free/Laws.lean (Back.of_free), Shelf42/LK1.lean (callV, callS), Shelf/KitTraced.lean (throwNew0V, throwNewS). -/
/-- where a method has thrown q: the class by its name, the cell, what was written, the world -/
def vx_T (XC : String → State → State → Prop) (st : State) (q : Addr) (t : State) (mc ms : Nat) (free : Addr → Prop) : Prop :=
  ∃ (E : String) (ce : Cell) (L : List Loc), XC E st t ∧ t.heap[q]? = some ce ∧ ce.vm = .none ∧ st.vm.findClass E = some ce.cls ∧ st.WarmedH t.vm ∧ st.sameButNew ({ t with vm := st.vm } : State) L mc ms ∧ ∀ z ∈ L, free z.base
def vx_Q (Qc : Array Value → State → Outcome → State → Prop) (XC : String → State → State → Prop) (mc ms : Nat) (free : Addr → Prop) : Array Value → State → Outcome → State → Prop := fun a st o t =>
  (Qc a st o t ∧ ∃ L, FrameEnd st o t L mc ms ∧ ∀ q ∈ L, free q.base) ∨ ∃ q, o = .threw q ∧ vx_T XC st q t mc ms free
/-- a callee that returns or throws -/
def vx_Met (l : Launch) (y : MethodName) (ws : List Cond) (rm : Room) (Pc : Array Value → State → Prop) (Qc : Array Value → State → Outcome → State → Prop) (XC : String → State → State → Prop) (mc ms : Nat) (free : Addr → Prop) : Prop :=
  MetFree l y (headSpec ws rm) Pc (fun _ _ _ _ _ => True) (vx_Q Qc XC mc ms free)
def vx_Post (XC : String → State → State → Prop) (mc ms : Nat) (free : Addr → Prop) : Pt → Array Value → Addr → Pt → Prop := fun A a q B =>
  ∃ (g : JFrame) (mk : MethodId) (t : State) (L : List Loc) (E : String) (ce : Cell), B.U.heap = t.heap ∧ B.U.vm = t.vm ∧ XC E (A.U.calling g mk a) t ∧ t.heap[q]? = some ce ∧ ce.vm = .none ∧ A.U.vm.findClass E = some ce.cls ∧ B.locs = A.locs ++ L ∧ (∀ z ∈ L, free z.base) ∧ B.cells = A.cells + mc ∧ B.slots = A.slots + ms
def vx_Back (l : Launch) (R : Room) (p : Program) (e : Env) (below : List Frame) (s : State) (sargs : Array Value) (y : MethodName) (len W9 : Nat)
    (Pre : Pt → Array Value → Prop) (Post : Pt → Array Value → Option Value → Pt → Prop) (PostX : Pt → Array Value → Addr → Pt → Prop) : Prop :=
  ∀ (m : MethodId) (meth : Method) (c : Code) (A : Pt) (g : JFrame) (ig : Instr) (mk : MethodId) (a : Array Value),
    Stand p l e R s m sargs below meth c A.U A.locs A.cells A.slots → g.method = m → g.locals.size = c.maxLocals → decode c.code g.pc = .ok (ig, len) →
    2 * g.monitorRoom + (g.stack.map fun v => v.category).sum ≤ W9 → A.U.methodNamed? y = some mk → Pre A a →
    (∃ (v : Option Value) (B : Pt), Stand p l e R s m sargs below meth c B.U B.locs B.cells B.slots ∧ Post A a v B ∧
      Steps p.tables e below (doInvoke e (A.U.setTop g) [] mk a).1 (B.U.setTop { g with pc := g.pc + len, stack := v.toList ++ g.stack })) ∨
    (∃ (q : Addr) (B : Pt), Stand p l e R s m sargs below meth c B.U B.locs B.cells B.slots ∧ PostX A a q B ∧
      Steps p.tables e below (doInvoke e (A.U.setTop g) [] mk a).1 ((B.U.setTop g).pushFrame (.throwing q)))
section Payer
variable {l : Launch} {R : Room} {p : Program} {e : Env} {below : List Frame} {s : State} {sargs : Array Value} {y : MethodName} {len W9 : Nat}
theorem vx_back {ws : List Cond} {rm : Room} {Pc : Array Value → State → Prop} {Qc : Array Value → State → Outcome → State → Prop} {XC : String → State → State → Prop} {mc ms : Nat} {free : Addr → Prop} {bytes : ByteArray} {maxL : Nat} {ret : Option FieldType}
    (hM : vx_Met l y ws rm Pc Qc XC mc ms free) (hblind : FrameBlind Pc) (hrc : rm.cells = mc) (hrs : rm.slots = ms)
    (hframes : rm.frames + 1 ≤ R.frames) (hlocals : W9 + (maxL + 11) + rm.locals ≤ R.locals)
    (hws : ∀ w ∈ ws, ∀ a' U, s.WarmedH U.vm → w.before a' U = true) (hcode : Cond.code y bytes maxL ret ∈ ws) (hinit : ∀ a' U, s.WarmedH U.vm → (Cond.initialized y.cls).before a' U = true) :
    vx_Back l R p e below s sargs y len W9 (PreOf R mc ms Pc) (PostOf Qc mc ms free) (vx_Post XC mc ms free) := by
  intro m meth c A g ig mk a X hg hsize hdg hW hn hp
  have h1 : (headSpec ws rm).pre.before a A.U = true := atoms_intro fun w hw => hws w hw _ _ X.warmed
  have h2 : (Cond.code y bytes maxL ret).before a A.U = true := hws _ hcode _ _ X.warmed
  have h3 : (Cond.initialized y.cls).before a A.U = true := hinit _ _ X.warmed
  have h4 : A.cells + (headSpec ws rm).room.cells ≤ R.cells := by rw [show (headSpec ws rm).room.cells = mc from hrc]; exact hp.1
  have h5 : A.slots + (headSpec ws rm).room.slots ≤ R.slots := by rw [show (headSpec ws rm).room.slots = ms from hrs]; exact hp.2.1
  have hPc : Pc a (A.U.calling g mk a) := hblind _ _ _ _ hp.2.2
  obtain ⟨U, Ls, c0, s0⟩ := A
  dsimp only [Pt.U, Pt.locs, Pt.cells, Pt.slots] at h1 h2 h3 h4 h5 X hn hPc ⊢
  obtain ⟨methY, cY, hmY, hcY, -, hlY, -, -, -, -⟩ := Cond.code_spec hn h2
  obtain ⟨kY, hkY, -⟩ := className_of_methodNamed hn
  have hinitY : kY.init = .initialized := Cond.initialized_spec (findClass_of_methodNamed hn) hkY h3
  have h : At U g.method c below := by rw [hg]; exact X.here
  have hlocals9 : W9 + (maxL + 11) + (headSpec ws rm).room.locals ≤ R.locals := hlocals
  have happ : (headSpec ws rm).appliesLoose y e.platform (U.calling g mk a) = true :=
    Spec.appliesLoose_calling (g := g) h hdg hn hkY hinitY
      (X.room_calling (g := g) (R' := (headSpec ws rm).room) hsize hmY hcY hframes (by rw [hlY]; omega) h4 h5) h1
  obtain ⟨mid, hmid⟩ := h.above
  have hfr : (U.setTop g).frames = (.java g :: mid) ++ below := by rw [State.frames_setTop' g h.top, hmid]; rfl
  obtain ⟨o, s₂, hsteps, -, hend, hq⟩ := Steps.callFree hM p X.admits X.cas X.clock (acts := []) hfr happ hPc trivial
  have hq' : vx_Q Qc XC mc ms free a (U.calling g mk a) o s₂ := hq
  rw [State.frames_setTop' g h.top] at hend
  obtain ⟨g₀, hg0⟩ := Option.isSome_iff_exists.mp h.top
  obtain ⟨r, hr⟩ := State.topJava?_eq_some.mp hg0
  have hr' : (({ U with heap := s₂.heap, slotsUsed := s₂.slotsUsed } : State).setVm s₂.vm).frames = .java g₀ :: r := hr
  rcases hq' with ⟨hqc, L, hfe, hL⟩ | ⟨q, rfl, E, ce, L, hx, hce, hcv, hcl, hW₂, hsm, hL⟩
  · obtain ⟨⟨v, rfl⟩, hW₂, e2, q2, q3, q4, q5, q6⟩ := id hfe
    have e3 : s₂ = ({ (U.calling g mk a).setFrames s₂.frames with heap := s₂.heap, slotsUsed := s₂.slotsUsed } : State).setVm s₂.vm := by
      have : s₂ = ({ s₂ with vm := (U.calling g mk a).vm } : State).setVm s₂.vm := rfl
      rw [e2] at this
      exact this
    obtain ⟨c₂, i₂, len₂, hc₂, hd₂, hf₂⟩ := hend
    have hW' : U.WarmedH s₂.vm := hW₂
    have hcc : c₂ = c := by
      have h1 : s₂.code? g.method = U.code? g.method := by
        rw [State.code?_eq, State.code?_eq, hW'.alike.method?]
      exact Option.some.inj (hc₂.symm.trans (h1.trans h.code))
    subst hcc
    have hlen : len₂ = len := by rw [hdg] at hd₂; cases hd₂; rfl
    subst hlen
    have hs₂ : s₂ = (({ U with heap := s₂.heap, slotsUsed := s₂.slotsUsed } : State).setVm s₂.vm).setTop { g with pc := g.pc + len₂, stack := v.toList ++ g.stack } := by
      refine e3.trans ?_
      rw [hf₂, State.calling_eq h.top, State.setFrames_setFrames, State.setTop_of_frames _ hr', hr]
      rfl
    have hsame : U.sameButNew ({ U with heap := s₂.heap, slotsUsed := s₂.slotsUsed } : State) L mc ms := by
      refine ⟨?_, q2, q3, q4, q5, q6⟩
      obtain ⟨t, ht, -⟩ := State.frames_cons hr
      show ({ U with heap := s₂.heap, slotsUsed := s₂.slotsUsed } : State) = { U.setFrames U.frames with heap := s₂.heap, slotsUsed := s₂.slotsUsed }
      rw [State.setFrames_self ht]
    subst hg
    refine Or.inl ⟨v, ⟨(({ U with heap := s₂.heap, slotsUsed := s₂.slotsUsed } : State).setVm s₂.vm), Ls ++ L, c0 + mc, s0 + ms⟩,
      ⟨X.admits, X.cas, X.clock, X.frames, X.room, X.hears, X.method, X.code, (X.here.setHeapUsed s₂.heap s₂.slotsUsed).setVm hW'.alike, X.tail, State.WarmedH.trans X.warmed hW', X.limits, X.bytes, X.same.trans (hsame.setVm s.vm)⟩,
      ⟨g, mk, s₂, L, rfl, rfl, hqc, rfl, hL, rfl, rfl⟩, ?_⟩
    show Steps p.tables e below _ ((({ U with heap := s₂.heap, slotsUsed := s₂.slotsUsed } : State).setVm s₂.vm).setTop { g with pc := g.pc + len₂, stack := v.toList ++ g.stack })
    rw [← hs₂]
    exact hsteps
  · obtain ⟨e2, q2, q3, q4, q5, q6⟩ := id hsm
    have e3 : s₂ = ({ (U.calling g mk a).setFrames s₂.frames with heap := s₂.heap, slotsUsed := s₂.slotsUsed } : State).setVm s₂.vm := by
      have : s₂ = ({ s₂ with vm := (U.calling g mk a).vm } : State).setVm s₂.vm := rfl
      rw [e2] at this
      exact this
    have hf₂ : s₂.frames = .throwing q :: .java g :: U.frames.tail := hend
    have hW' : U.WarmedH s₂.vm := hW₂
    have hs₂ : s₂ = ((({ U with heap := s₂.heap, slotsUsed := s₂.slotsUsed } : State).setVm s₂.vm).setTop g).pushFrame (.throwing q) := by
      refine e3.trans ?_
      rw [hf₂, State.calling_eq h.top, State.setFrames_setFrames, State.pushFrame, State.frames_setTop _ hr', State.setTop_of_frames _ hr', State.setFrames_setFrames, hr]
      rfl
    have hsame : U.sameButNew ({ U with heap := s₂.heap, slotsUsed := s₂.slotsUsed } : State) L mc ms := by
      refine ⟨?_, q2, q3, q4, q5, q6⟩
      obtain ⟨t, ht, -⟩ := State.frames_cons hr
      show ({ U with heap := s₂.heap, slotsUsed := s₂.slotsUsed } : State) = { U.setFrames U.frames with heap := s₂.heap, slotsUsed := s₂.slotsUsed }
      rw [State.setFrames_self ht]
    subst hg
    refine Or.inr ⟨q, ⟨(({ U with heap := s₂.heap, slotsUsed := s₂.slotsUsed } : State).setVm s₂.vm), Ls ++ L, c0 + mc, s0 + ms⟩,
      ⟨X.admits, X.cas, X.clock, X.frames, X.room, X.hears, X.method, X.code, (X.here.setHeapUsed s₂.heap s₂.slotsUsed).setVm hW'.alike, X.tail, State.WarmedH.trans X.warmed hW', X.limits, X.bytes, X.same.trans (hsame.setVm s.vm)⟩,
      ⟨g, mk, s₂, L, E, ce, rfl, rfl, hx, hce, hcv, hcl, rfl, hL, rfl, rfl⟩, ?_⟩
    show Steps p.tables e below _ (((({ U with heap := s₂.heap, slotsUsed := s₂.slotsUsed } : State).setVm s₂.vm).setTop g).pushFrame (.throwing q))
    rw [← hs₂]
    exact hsteps
end Payer
section Calls
variable {p : Program} {l : Launch} {e : Env} {R : Room} {s : State} {m : MethodId} {args : Array Value} {below : List Frame} {meth : Method} {c : Code} {T : State} {locs : List Loc} {cells slots : Nat}
theorem vx_callV (X : Stand p l e R s m args below meth c T locs cells slots) (hexec : p.tables.exec = Jvm.exec) {own C : String} {index : Nat} {y : MethodName} {bytes : ByteArray} {maxL : Nat} {ret : Option FieldType}
    (hown : s.vm.findClass own = some m.cls) (hlink : (Cond.methodLink own index y).before args s = true) (hinst : (Cond.instanceMethod y).before args s = true) (hsel : (Cond.selects C y y).before args s = true)
    (hcode : (Cond.code y bytes maxL ret).before args s = true) (hy : y.cls ≠ "java/lang/invoke/MethodHandle" ∧ y.cls ≠ "java/lang/invoke/VarHandle")
    {W9 : Nat} {Pre : Pt → Array Value → Prop} {Post : Pt → Array Value → Option Value → Pt → Prop} {PostX : Pt → Array Value → Addr → Pt → Prop} (hK : vx_Back l R p e below s args y 3 W9 Pre Post PostX)
    {b : Addr} {cellB : Cell} (hcell : T.heap[b]? = some cellB) (hobj : cellB.vm.isStatics = false) (hcls : s.vm.findClass C = some cellB.cls)
    {g : JFrame} (hg : g.method = m) (hsize : g.locals.size = c.maxLocals) {argsL rest : List Value} (hlen : ∀ sig, parseMethodDescriptor y.desc = some sig → argsL.length = sig.parameters.length)
    (hstack : g.stack = argsL.reverse ++ .ref b :: rest) (hW : 2 * g.monitorRoom + (rest.map fun v => v.category).sum ≤ W9) (hdg : decode c.code g.pc = .ok (.invokevirtual index, 3))
    (hpre : ∀ vm₁, s.WarmedH vm₁ → Pre ⟨T.setVm vm₁, locs, cells, slots⟩ (Value.ref b :: argsL).toArray) :
    (∃ (v : Option Value) (vm₁ : Vm) (B : Pt), s.WarmedH vm₁ ∧ Stand p l e R s m args below meth c B.U B.locs B.cells B.slots ∧ Post ⟨T.setVm vm₁, locs, cells, slots⟩ (Value.ref b :: argsL).toArray v B ∧
      ∀ target, Steps p.tables e below (B.U.setTop { g with pc := g.pc + 3, stack := v.toList ++ rest }) target → Steps p.tables e below (T.setTop g) target) ∨
    (∃ (q : Addr) (vm₁ : Vm) (B : Pt), s.WarmedH vm₁ ∧ Stand p l e R s m args below meth c B.U B.locs B.cells B.slots ∧ PostX ⟨T.setVm vm₁, locs, cells, slots⟩ (Value.ref b :: argsL).toArray q B ∧
      Steps p.tables e below (T.setTop g) ((B.U.setTop { g with stack := rest }).pushFrame (.throwing q))) := by
  obtain ⟨mk, methM, hnamed, hmethM, hstM, habM⟩ := Cond.instanceMethod_spec hinst
  obtain ⟨methM', cM, hmethM', -, -, -, -, -, -, hsigM⟩ := Cond.code_spec hnamed hcode
  cases hmethM.symm.trans hmethM'
  obtain ⟨c2, r2, m2, q1, q2, q3, q4, kP, hkP, hkPi⟩ := Cond.selects_spec hsel
  cases hcls.symm.trans q1
  cases (State.methodFound?_of_named hnamed hy).symm.trans q2
  cases hnamed.symm.trans q3
  have hselP : selectMethod e.platform s.vm cellB.cls mk = .method mk := by rw [Launch.admits_selectMethod X.admits]; exact q4
  obtain ⟨vm₁, X₁, hstep₁⟩ := X.invokevirtual hexec hown hlink hnamed hmethM hstM hkP hkPi hy (a := b) (cell := cellB) hcell
    (fun z h => by rw [h] at hobj; cases hobj) hselP hmethM habM hkP hkPi (g := g) hg (argsL := argsL) (rest := rest) (hlen _ hsigM) hstack hdg
  rcases hK m meth c ⟨T.setVm vm₁, locs, cells, slots⟩ { g with stack := rest } (.invokevirtual index) mk (Value.ref b :: argsL).toArray X₁ hg hsize hdg hW (X₁.named hnamed) (hpre vm₁ X₁.warmed) with ⟨v, B, X', hpost, hsteps⟩ | ⟨q, B, X', hpost, hsteps⟩
  · exact Or.inl ⟨v, vm₁, B, X₁.warmed, X', hpost, fun target h => hstep₁ _ fun acts => by rw [doInvoke_state]; exact hsteps.trans h⟩
  · exact Or.inr ⟨q, vm₁, B, X₁.warmed, X', hpost, hstep₁ _ fun acts => by rw [doInvoke_state]; exact hsteps⟩
theorem vx_callS (X : Stand p l e R s m args below meth c T locs cells slots) (hexec : p.tables.exec = Jvm.exec) {own : String} {index : Nat} {y : MethodName} {bytes : ByteArray} {maxL : Nat} {ret : Option FieldType}
    (hown : s.vm.findClass own = some m.cls) (hlink : (Cond.methodLink own index y).before args s = true) (hstat : (Cond.static y).before args s = true) (hinit : (Cond.initialized y.cls).before args s = true)
    (hcode : (Cond.code y bytes maxL ret).before args s = true) (hy : y.cls ≠ "java/lang/invoke/MethodHandle" ∧ y.cls ≠ "java/lang/invoke/VarHandle")
    {W9 : Nat} {Pre : Pt → Array Value → Prop} {Post : Pt → Array Value → Option Value → Pt → Prop} {PostX : Pt → Array Value → Addr → Pt → Prop} (hK : vx_Back l R p e below s args y 3 W9 Pre Post PostX)
    {g : JFrame} (hg : g.method = m) (hsize : g.locals.size = c.maxLocals) {argsL rest : List Value} (hlen : ∀ sig, parseMethodDescriptor y.desc = some sig → argsL.length = sig.parameters.length)
    (hstack : g.stack = argsL.reverse ++ rest) (hW : 2 * g.monitorRoom + (rest.map fun v => v.category).sum ≤ W9) (hdg : decode c.code g.pc = .ok (.invokestatic index, 3))
    (hpre : ∀ vm₁, s.WarmedH vm₁ → Pre ⟨T.setVm vm₁, locs, cells, slots⟩ argsL.toArray) :
    (∃ (v : Option Value) (vm₁ : Vm) (B : Pt), s.WarmedH vm₁ ∧ Stand p l e R s m args below meth c B.U B.locs B.cells B.slots ∧ Post ⟨T.setVm vm₁, locs, cells, slots⟩ argsL.toArray v B ∧
      ∀ target, Steps p.tables e below (B.U.setTop { g with pc := g.pc + 3, stack := v.toList ++ rest }) target → Steps p.tables e below (T.setTop g) target) ∨
    (∃ (q : Addr) (vm₁ : Vm) (B : Pt), s.WarmedH vm₁ ∧ Stand p l e R s m args below meth c B.U B.locs B.cells B.slots ∧ PostX ⟨T.setVm vm₁, locs, cells, slots⟩ argsL.toArray q B ∧
      Steps p.tables e below (T.setTop g) ((B.U.setTop { g with stack := rest }).pushFrame (.throwing q))) := by
  obtain ⟨mk, hnamed⟩ := Cond.code_named hcode
  obtain ⟨methM, cM, hmethM, -, -, -, -, -, -, hsigM⟩ := Cond.code_spec hnamed hcode
  have hstatic : methM.isStatic = true := Cond.static_spec hnamed hmethM hstat
  obtain ⟨kP, hkP, -⟩ := className_of_methodNamed hnamed
  have hinitP : kP.init = .initialized := Cond.initialized_spec (findClass_of_methodNamed hnamed) hkP hinit
  obtain ⟨vm₁, X₁, hstep₁⟩ := X.invokestatic hexec hown hlink hnamed hmethM hstatic hkP hinitP hy (g := g) hg (argsL := argsL) (rest := rest) (hlen _ hsigM) hstack hdg
  rcases hK m meth c ⟨T.setVm vm₁, locs, cells, slots⟩ { g with stack := rest } (.invokestatic index) mk argsL.toArray X₁ hg hsize hdg hW (X₁.named hnamed) (hpre vm₁ X₁.warmed) with ⟨v, B, X', hpost, hsteps⟩ | ⟨q, B, X', hpost, hsteps⟩
  · exact Or.inl ⟨v, vm₁, B, X₁.warmed, X', hpost, fun target h => hstep₁ _ fun acts => by rw [doInvoke_state]; exact hsteps.trans h⟩
  · exact Or.inr ⟨q, vm₁, B, X₁.warmed, X', hpost, hstep₁ _ fun acts => by rw [doInvoke_state]; exact hsteps⟩
end Calls
theorem vx_cls {s : State} {T : State} {vm₁ : Vm} {E : String} {k : ClassId} (hW : s.WarmedH vm₁) (h : (T.setVm vm₁).vm.findClass E = some k) : s.vm.findClass E = some k := by
  have h1 : vm₁.findClass E = some k := h
  rw [hW.alike.findClass] at h1
  exact h1
/-- the method's frame g, with q thrown over it -/
def vx_W (p : Program) (l : Launch) (e : Env) (R : Room) (s : State) (m : MethodId) (args : Array Value) (below : List Frame) (meth : Method) (c : Code) (H : Heap) (locs : List Loc) (cells slots : Nat) (Q : State → Prop) (g : JFrame) (q : Addr) : Prop :=
  ∀ T : State, T.heap = H → Stand p l e R s m args below meth c T locs cells slots → ∃ t, Steps p.tables e below ((T.setTop g).pushFrame (.throwing q)) t ∧ Q t
def vx_Run (p : Program) (l : Launch) (e : Env) (R : Room) (s : State) (m : MethodId) (args : Array Value) (below : List Frame) (meth : Method) (c : Code) (H : Heap) (locs : List Loc) (cells slots mc ms : Nat) (g : JFrame) (rest : List Value) (Qa : State → Outcome → State → Prop) (XC : String → State → State → Prop) (free : Addr → Prop) : Prop :=
  ∀ T : State, T.heap = H → Stand p l e R s m args below meth c T locs cells slots →
    (∃ (v : Option Value) (st₀ t T' : State) (L : List Loc), st₀.heap = H ∧ Stand p l e R s m args below meth c T' (locs ++ L) (cells + mc) (slots + ms) ∧ (∀ q ∈ L, free q.base) ∧ T'.heap = t.heap ∧ T'.vm = t.vm ∧ Qa st₀ (.returned v) t ∧
      Goes p e below T g T' { g with pc := g.pc + 3, stack := v.toList ++ rest }) ∨
    (∃ (q : Addr) (st₀ t T' : State) (L : List Loc) (E : String) (ce : Cell), st₀.heap = H ∧ Stand p l e R s m args below meth c T' (locs ++ L) (cells + mc) (slots + ms) ∧ (∀ z ∈ L, free z.base) ∧ T'.heap = t.heap ∧ T'.vm = t.vm ∧ XC E st₀ t ∧ t.heap[q]? = some ce ∧ ce.vm = .none ∧ s.vm.findClass E = some ce.cls ∧
      Steps p.tables e below (T.setTop g) ((T'.setTop { g with stack := rest }).pushFrame (.throwing q)))
def vx_X {S : Type} (px : S → Prop) (B : String → S → State → Prop) (A : Nat → Prop) : String → State → State → Prop := fun E st t => ∃ u : S, px u ∧ B E u t ∧ va_F A st t
section Runs
variable {p : Program} {l : Launch} {e : Env} {R : Room} {s : State} {m : MethodId} {args : Array Value} {below : List Frame} {meth : Method} {c : Code} {H : Heap} {locs : List Loc} {cells slots : Nat}
variable {y : MethodName} {bytes cc : ByteArray} {maxL nL mc ms n index : Nat} {ret : Option FieldType} {ws : List Cond} {rm : Room} {Pc : Array Value → State → Prop} {Qc : Array Value → State → Outcome → State → Prop} {XC : String → State → State → Prop} {free : Addr → Prop} {Ts : List Cond} {own C : String} {b : Addr} {As rest : List Value} {g : JFrame}
theorem vx_callBack (cb : CallB R s args own index y bytes maxL ret ws rm mc ms n) (hM : vx_Met l y ws rm Pc Qc XC mc ms free) (hbl : FrameBlind Pc) : vx_Back l R p e below s args y 3 8 (PreOf R mc ms Pc) (PostOf Qc mc ms free) (vx_Post XC mc ms free) := by
  obtain ⟨hrc, hrs, hfr, hlo, hws, hcw, -, hini, -⟩ := cb
  exact vx_back (bytes := bytes) (maxL := maxL) (ret := ret) hM hbl hrc hrs hfr hlo hws hcw (fun a' U hW => word_at hW (Or.inl (by first | rfl | simp [Cond.onTables, Cond.keeps, Cond.steady])) hini)
theorem vx_runV (S : CallFix p m c cc nL s args Ts own) (hM : vx_Met l y ws rm Pc Qc XC mc ms free) (cw : CallW R s args own C index y bytes maxL ret ws rm mc ms n) (hp : PreV s H C b Pc As)
    (hg : g.method = m) (hn : As.length = n) (hsize : g.locals.size = nL) (hstack : g.stack = As.reverse ++ .ref b :: rest) (hW : 2 * g.monitorRoom + (rest.map fun v => v.category).sum ≤ 8) (hdg : decode cc g.pc = .ok (.invokevirtual index, 3)) (hf : cells + mc ≤ R.cells ∧ slots + ms ≤ R.slots) :
    vx_Run p l e R s m args below meth c H locs cells slots mc ms g rest (Qc (Value.ref b :: As).toArray) XC free := by
  have hK : vx_Back l R p e below s args y 3 8 (PreOf R mc ms Pc) (PostOf Qc mc ms free) (vx_Post XC mc ms free) := vx_callBack cw.1 hM hp.1
  obtain ⟨⟨-, -, -, -, -, -, hcode, -, hy, hlen, hl⟩, hin, hse⟩ := cw
  obtain ⟨hx, hb, hml, ho, -⟩ := S
  obtain ⟨-, ⟨cellB, hcB, hoB, hclB⟩, hPc⟩ := hp
  intro T hT X
  rcases vx_callV X hx (C := C) (bytes := bytes) (maxL := maxL) (ret := ret) ho hl hin hse hcode hy hK (by rw [hT]; exact hcB) hoB hclB hg (hsize.trans hml.symm) (argsL := As) (rest := rest) (fun sig h => hn.trans (hlen sig h)) hstack hW (by rw [hb]; exact hdg)
    (fun vm₁ hW₁ => ⟨hf.1, hf.2, hPc (T.setVm vm₁) hT hW₁⟩) with ⟨v, vm₁, ⟨U', l2, c2, s2⟩, hW₁, X', ⟨g', mk, t, L, e1, e2, hq, h1, hL, h2, h3⟩, st⟩ | ⟨q, vm₁, ⟨U', l2, c2, s2⟩, hW₁, X', ⟨g', mk, t, L, E, ce, e1, e2, hq, hce, hcv, hcl, h1, hL, h2, h3⟩, st⟩
  · dsimp only [Pt.U, Pt.locs, Pt.cells, Pt.slots] at X' e1 e2 h1 h2 h3 st
    subst h1; subst h2; subst h3
    exact Or.inl ⟨v, (T.setVm vm₁).calling g' mk (Value.ref b :: As).toArray, t, U', L, hT, X', hL, e1, e2, hq, st⟩
  · dsimp only [Pt.U, Pt.locs, Pt.cells, Pt.slots] at X' e1 e2 h1 h2 h3 st hcl
    subst h1; subst h2; subst h3
    exact Or.inr ⟨q, (T.setVm vm₁).calling g' mk (Value.ref b :: As).toArray, t, U', L, E, ce, hT, X', hL, e1, e2, hq, hce, hcv, vx_cls hW₁ hcl, st⟩
theorem vx_runS (S : CallFix p m c cc nL s args Ts own) (hM : vx_Met l y ws rm Pc Qc XC mc ms free) (cw : CallB R s args own index y bytes maxL ret ws rm mc ms n ∧ (Cond.static y).before args s = true) (hp : PreS s H Pc As)
    (hg : g.method = m) (hn : As.length = n) (hsize : g.locals.size = nL) (hstack : g.stack = As.reverse ++ rest) (hW : 2 * g.monitorRoom + (rest.map fun v => v.category).sum ≤ 8) (hdg : decode cc g.pc = .ok (.invokestatic index, 3)) (hf : cells + mc ≤ R.cells ∧ slots + ms ≤ R.slots) :
    vx_Run p l e R s m args below meth c H locs cells slots mc ms g rest (Qc As.toArray) XC free := by
  have hK : vx_Back l R p e below s args y 3 8 (PreOf R mc ms Pc) (PostOf Qc mc ms free) (vx_Post XC mc ms free) := vx_callBack cw.1 hM hp.1
  obtain ⟨⟨-, -, -, -, -, -, hcode, hini, hy, hlen, hl⟩, hstt⟩ := cw
  obtain ⟨hx, hb, hml, ho, -⟩ := S
  intro T hT X
  rcases vx_callS X hx (bytes := bytes) (maxL := maxL) (ret := ret) ho hl hstt hini hcode hy hK hg (hsize.trans hml.symm) (argsL := As) (rest := rest) (fun sig h => hn.trans (hlen sig h)) hstack hW (by rw [hb]; exact hdg)
    (fun vm₁ hW₁ => ⟨hf.1, hf.2, hp.2 (T.setVm vm₁) hT hW₁⟩) with ⟨v, vm₁, ⟨U', l2, c2, s2⟩, hW₁, X', ⟨g', mk, t, L, e1, e2, hq, h1, hL, h2, h3⟩, st⟩ | ⟨q, vm₁, ⟨U', l2, c2, s2⟩, hW₁, X', ⟨g', mk, t, L, E, ce, e1, e2, hq, hce, hcv, hcl, h1, hL, h2, h3⟩, st⟩
  · dsimp only [Pt.U, Pt.locs, Pt.cells, Pt.slots] at X' e1 e2 h1 h2 h3 st
    subst h1; subst h2; subst h3
    exact Or.inl ⟨v, (T.setVm vm₁).calling g' mk As.toArray, t, U', L, hT, X', hL, e1, e2, hq, st⟩
  · dsimp only [Pt.U, Pt.locs, Pt.cells, Pt.slots] at X' e1 e2 h1 h2 h3 st hcl
    subst h1; subst h2; subst h3
    exact Or.inr ⟨q, (T.setVm vm₁).calling g' mk As.toArray, t, U', L, E, ce, hT, X', hL, e1, e2, hq, hce, hcv, vx_cls hW₁ hcl, st⟩
end Runs
section Rows
variable {p : Program} {l : Launch} {e : Env} {R : Room} {s : State} {m : MethodId} {args : Array Value} {below : List Frame} {meth : Method} {c : Code} {H : Heap} {locs : List Loc} {cells slots : Nat} {Q : State → Prop}
variable {mc ms : Nat} {free : Addr → Prop} {A0 A1 : Nat → Prop} {H0 : Heap} {a : Array Value} {pc : Nat} {ls : Array Slot} {st0 rest : List Value}
theorem vx_keep {st₀ t T' : State} {L : List Loc} (h0 : st₀.heap = H) (e1 : T'.heap = t.heap) (hS : va_S A0 H0 H locs) (hA : ∀ q, q < H.size → A1 q → A0 q) (hf : ∀ q, free q → A0 q) (hL : ∀ q ∈ L, free q.base) (hF : va_F A1 st₀ t) :
    H.size ≤ T'.heap.size ∧ (∀ q : Nat, q < H.size → ¬ A1 q → T'.heap[q]? = H[q]?) ∧ va_S A0 H0 T'.heap (locs ++ L) := by
  obtain ⟨hz, hk⟩ := hF
  rw [h0] at hz hk
  exact ⟨by rw [e1]; exact hz, fun q h1 h2 => by rw [e1]; exact hk q h1 h2,
    ⟨Nat.le_trans hS.1 (by rw [e1]; exact hz), fun q h1 h2 => by rw [e1, hk q (Nat.lt_of_lt_of_le h1 hS.1) (fun z => h2 (hA q (Nat.lt_of_lt_of_le h1 hS.1) z))]; exact hS.2.1 q h1 h2, fun q hq => by
      rcases List.mem_append.mp hq with h | h
      · exact hS.2.2 q h
      · exact hf _ (hL q h)⟩⟩
theorem vx_calli {S SX : Type} {post : Int32 → S → Prop} {px : SX → Prop} {B : S → State → Prop} {BX : String → SX → State → Prop} {AX : Nat → Prop} (hr : vx_Run p l e R s m args below meth c H locs cells slots mc ms (F0 m pc ls st0) rest (va_Qi post B A1 a) (vx_X px BX AX) free) (hS : va_S A0 H0 H locs) (hA : ∀ q, q < H.size → A1 q → A0 q) (hf : ∀ q, free q → A0 q) (hAX : ∀ q, q < H.size → AX q → A0 q)
    (kx : ∀ (E : String) (ce : Cell) (q9 : Addr) (u : SX) (t : State) (H1 : Heap) (locs1 : List Loc), t.heap = H1 → s.vm.Alike t.vm → px u → BX E u t → H.size ≤ H1.size → (∀ q : Nat, q < H.size → ¬ AX q → H1[q]? = H[q]?) → va_S A0 H0 H1 locs1 → H1[q9]? = some ce → ce.vm = .none → s.vm.findClass E = some ce.cls → vx_W p l e R s m args below meth c H1 locs1 (cells + mc) (slots + ms) Q (F0 m pc ls rest) q9)
    (kk : ∀ (r : Int32) (u : S) (t : State) (H1 : Heap) (locs1 : List Loc), t.heap = H1 → s.vm.Alike t.vm → post r u → B u t → H.size ≤ H1.size → (∀ q : Nat, q < H.size → ¬ A1 q → H1[q]? = H[q]?) → va_S A0 H0 H1 locs1 → W p l e R s m args below meth c H1 locs1 (cells + mc) (slots + ms) Q (F0 m (pc + 3) ls (.int r :: rest))) : W p l e R s m args below meth c H locs cells slots Q (F0 m pc ls st0) := by
  intro T hT X
  rcases hr T hT X with ⟨v, st₀, t, T', L, h0, X', hL, e1, e2, ⟨⟨r, u, hv, hp, hb⟩, hF⟩, st⟩ | ⟨q, st₀, t, T', L, E, ce, h0, X', hL, e1, e2, ⟨u, hp, hb, hF⟩, hce, hcv, hcl, st⟩
  · cases hv
    obtain ⟨k1, k2, k3⟩ := vx_keep h0 e1 hS hA hf hL hF
    obtain ⟨t2, a1, b1⟩ := kk r u t T'.heap (locs ++ L) e1.symm (by rw [← e2]; exact X'.warmed.alike) hp hb k1 k2 k3 T' rfl X'
    exact ⟨t2, st t2 a1, b1⟩
  · obtain ⟨k1, k2, k3⟩ := vx_keep h0 e1 hS hAX hf hL hF
    obtain ⟨t2, a1, b1⟩ := kx E ce q u t T'.heap (locs ++ L) e1.symm (by rw [← e2]; exact X'.warmed.alike) hp hb k1 k2 k3 (by rw [e1]; exact hce) hcv hcl T' rfl X'
    exact ⟨t2, st.trans a1, b1⟩
theorem vx_calll {S SX : Type} {post : Int64 → S → Prop} {px : SX → Prop} {B : S → State → Prop} {BX : String → SX → State → Prop} {AX : Nat → Prop} (hr : vx_Run p l e R s m args below meth c H locs cells slots mc ms (F0 m pc ls st0) rest (va_Ql post B A1 a) (vx_X px BX AX) free) (hS : va_S A0 H0 H locs) (hA : ∀ q, q < H.size → A1 q → A0 q) (hf : ∀ q, free q → A0 q) (hAX : ∀ q, q < H.size → AX q → A0 q)
    (kx : ∀ (E : String) (ce : Cell) (q9 : Addr) (u : SX) (t : State) (H1 : Heap) (locs1 : List Loc), t.heap = H1 → s.vm.Alike t.vm → px u → BX E u t → H.size ≤ H1.size → (∀ q : Nat, q < H.size → ¬ AX q → H1[q]? = H[q]?) → va_S A0 H0 H1 locs1 → H1[q9]? = some ce → ce.vm = .none → s.vm.findClass E = some ce.cls → vx_W p l e R s m args below meth c H1 locs1 (cells + mc) (slots + ms) Q (F0 m pc ls rest) q9)
    (kk : ∀ (r : Int64) (u : S) (t : State) (H1 : Heap) (locs1 : List Loc), t.heap = H1 → s.vm.Alike t.vm → post r u → B u t → H.size ≤ H1.size → (∀ q : Nat, q < H.size → ¬ A1 q → H1[q]? = H[q]?) → va_S A0 H0 H1 locs1 → W p l e R s m args below meth c H1 locs1 (cells + mc) (slots + ms) Q (F0 m (pc + 3) ls (.long r :: rest))) : W p l e R s m args below meth c H locs cells slots Q (F0 m pc ls st0) := by
  intro T hT X
  rcases hr T hT X with ⟨v, st₀, t, T', L, h0, X', hL, e1, e2, ⟨⟨r, u, hv, hp, hb⟩, hF⟩, st⟩ | ⟨q, st₀, t, T', L, E, ce, h0, X', hL, e1, e2, ⟨u, hp, hb, hF⟩, hce, hcv, hcl, st⟩
  · cases hv
    obtain ⟨k1, k2, k3⟩ := vx_keep h0 e1 hS hA hf hL hF
    obtain ⟨t2, a1, b1⟩ := kk r u t T'.heap (locs ++ L) e1.symm (by rw [← e2]; exact X'.warmed.alike) hp hb k1 k2 k3 T' rfl X'
    exact ⟨t2, st t2 a1, b1⟩
  · obtain ⟨k1, k2, k3⟩ := vx_keep h0 e1 hS hAX hf hL hF
    obtain ⟨t2, a1, b1⟩ := kx E ce q u t T'.heap (locs ++ L) e1.symm (by rw [← e2]; exact X'.warmed.alike) hp hb k1 k2 k3 (by rw [e1]; exact hce) hcv hcl T' rfl X'
    exact ⟨t2, st.trans a1, b1⟩
theorem vx_callf {S SX : Type} {post : UInt32 → S → Prop} {px : SX → Prop} {B : S → State → Prop} {BX : String → SX → State → Prop} {AX : Nat → Prop} (hr : vx_Run p l e R s m args below meth c H locs cells slots mc ms (F0 m pc ls st0) rest (va_Qf post B A1 a) (vx_X px BX AX) free) (hS : va_S A0 H0 H locs) (hA : ∀ q, q < H.size → A1 q → A0 q) (hf : ∀ q, free q → A0 q) (hAX : ∀ q, q < H.size → AX q → A0 q)
    (kx : ∀ (E : String) (ce : Cell) (q9 : Addr) (u : SX) (t : State) (H1 : Heap) (locs1 : List Loc), t.heap = H1 → s.vm.Alike t.vm → px u → BX E u t → H.size ≤ H1.size → (∀ q : Nat, q < H.size → ¬ AX q → H1[q]? = H[q]?) → va_S A0 H0 H1 locs1 → H1[q9]? = some ce → ce.vm = .none → s.vm.findClass E = some ce.cls → vx_W p l e R s m args below meth c H1 locs1 (cells + mc) (slots + ms) Q (F0 m pc ls rest) q9)
    (kk : ∀ (r : UInt32) (u : S) (t : State) (H1 : Heap) (locs1 : List Loc), t.heap = H1 → s.vm.Alike t.vm → post r u → B u t → H.size ≤ H1.size → (∀ q : Nat, q < H.size → ¬ A1 q → H1[q]? = H[q]?) → va_S A0 H0 H1 locs1 → W p l e R s m args below meth c H1 locs1 (cells + mc) (slots + ms) Q (F0 m (pc + 3) ls (.float r :: rest))) : W p l e R s m args below meth c H locs cells slots Q (F0 m pc ls st0) := by
  intro T hT X
  rcases hr T hT X with ⟨v, st₀, t, T', L, h0, X', hL, e1, e2, ⟨⟨r, u, hv, hp, hb⟩, hF⟩, st⟩ | ⟨q, st₀, t, T', L, E, ce, h0, X', hL, e1, e2, ⟨u, hp, hb, hF⟩, hce, hcv, hcl, st⟩
  · cases hv
    obtain ⟨k1, k2, k3⟩ := vx_keep h0 e1 hS hA hf hL hF
    obtain ⟨t2, a1, b1⟩ := kk r u t T'.heap (locs ++ L) e1.symm (by rw [← e2]; exact X'.warmed.alike) hp hb k1 k2 k3 T' rfl X'
    exact ⟨t2, st t2 a1, b1⟩
  · obtain ⟨k1, k2, k3⟩ := vx_keep h0 e1 hS hAX hf hL hF
    obtain ⟨t2, a1, b1⟩ := kx E ce q u t T'.heap (locs ++ L) e1.symm (by rw [← e2]; exact X'.warmed.alike) hp hb k1 k2 k3 (by rw [e1]; exact hce) hcv hcl T' rfl X'
    exact ⟨t2, st.trans a1, b1⟩
theorem vx_calld {S SX : Type} {post : UInt64 → S → Prop} {px : SX → Prop} {B : S → State → Prop} {BX : String → SX → State → Prop} {AX : Nat → Prop} (hr : vx_Run p l e R s m args below meth c H locs cells slots mc ms (F0 m pc ls st0) rest (va_Qd post B A1 a) (vx_X px BX AX) free) (hS : va_S A0 H0 H locs) (hA : ∀ q, q < H.size → A1 q → A0 q) (hf : ∀ q, free q → A0 q) (hAX : ∀ q, q < H.size → AX q → A0 q)
    (kx : ∀ (E : String) (ce : Cell) (q9 : Addr) (u : SX) (t : State) (H1 : Heap) (locs1 : List Loc), t.heap = H1 → s.vm.Alike t.vm → px u → BX E u t → H.size ≤ H1.size → (∀ q : Nat, q < H.size → ¬ AX q → H1[q]? = H[q]?) → va_S A0 H0 H1 locs1 → H1[q9]? = some ce → ce.vm = .none → s.vm.findClass E = some ce.cls → vx_W p l e R s m args below meth c H1 locs1 (cells + mc) (slots + ms) Q (F0 m pc ls rest) q9)
    (kk : ∀ (r : UInt64) (u : S) (t : State) (H1 : Heap) (locs1 : List Loc), t.heap = H1 → s.vm.Alike t.vm → post r u → B u t → H.size ≤ H1.size → (∀ q : Nat, q < H.size → ¬ A1 q → H1[q]? = H[q]?) → va_S A0 H0 H1 locs1 → W p l e R s m args below meth c H1 locs1 (cells + mc) (slots + ms) Q (F0 m (pc + 3) ls (.double r :: rest))) : W p l e R s m args below meth c H locs cells slots Q (F0 m pc ls st0) := by
  intro T hT X
  rcases hr T hT X with ⟨v, st₀, t, T', L, h0, X', hL, e1, e2, ⟨⟨r, u, hv, hp, hb⟩, hF⟩, st⟩ | ⟨q, st₀, t, T', L, E, ce, h0, X', hL, e1, e2, ⟨u, hp, hb, hF⟩, hce, hcv, hcl, st⟩
  · cases hv
    obtain ⟨k1, k2, k3⟩ := vx_keep h0 e1 hS hA hf hL hF
    obtain ⟨t2, a1, b1⟩ := kk r u t T'.heap (locs ++ L) e1.symm (by rw [← e2]; exact X'.warmed.alike) hp hb k1 k2 k3 T' rfl X'
    exact ⟨t2, st t2 a1, b1⟩
  · obtain ⟨k1, k2, k3⟩ := vx_keep h0 e1 hS hAX hf hL hF
    obtain ⟨t2, a1, b1⟩ := kx E ce q u t T'.heap (locs ++ L) e1.symm (by rw [← e2]; exact X'.warmed.alike) hp hb k1 k2 k3 (by rw [e1]; exact hce) hcv hcl T' rfl X'
    exact ⟨t2, st.trans a1, b1⟩
theorem vx_callv {S SX : Type} {post : S → Prop} {px : SX → Prop} {B : S → State → Prop} {BX : String → SX → State → Prop} {AX : Nat → Prop} (hr : vx_Run p l e R s m args below meth c H locs cells slots mc ms (F0 m pc ls st0) rest (va_Qv post B A1 a) (vx_X px BX AX) free) (hS : va_S A0 H0 H locs) (hA : ∀ q, q < H.size → A1 q → A0 q) (hf : ∀ q, free q → A0 q) (hAX : ∀ q, q < H.size → AX q → A0 q)
    (kx : ∀ (E : String) (ce : Cell) (q9 : Addr) (u : SX) (t : State) (H1 : Heap) (locs1 : List Loc), t.heap = H1 → s.vm.Alike t.vm → px u → BX E u t → H.size ≤ H1.size → (∀ q : Nat, q < H.size → ¬ AX q → H1[q]? = H[q]?) → va_S A0 H0 H1 locs1 → H1[q9]? = some ce → ce.vm = .none → s.vm.findClass E = some ce.cls → vx_W p l e R s m args below meth c H1 locs1 (cells + mc) (slots + ms) Q (F0 m pc ls rest) q9)
    (kk : ∀ (u : S) (t : State) (H1 : Heap) (locs1 : List Loc), t.heap = H1 → s.vm.Alike t.vm → post u → B u t → H.size ≤ H1.size → (∀ q : Nat, q < H.size → ¬ A1 q → H1[q]? = H[q]?) → va_S A0 H0 H1 locs1 → W p l e R s m args below meth c H1 locs1 (cells + mc) (slots + ms) Q (F0 m (pc + 3) ls (rest))) : W p l e R s m args below meth c H locs cells slots Q (F0 m pc ls st0) := by
  intro T hT X
  rcases hr T hT X with ⟨v, st₀, t, T', L, h0, X', hL, e1, e2, ⟨⟨u, hv, hp, hb⟩, hF⟩, st⟩ | ⟨q, st₀, t, T', L, E, ce, h0, X', hL, e1, e2, ⟨u, hp, hb, hF⟩, hce, hcv, hcl, st⟩
  · cases hv
    obtain ⟨k1, k2, k3⟩ := vx_keep h0 e1 hS hA hf hL hF
    obtain ⟨t2, a1, b1⟩ := kk u t T'.heap (locs ++ L) e1.symm (by rw [← e2]; exact X'.warmed.alike) hp hb k1 k2 k3 T' rfl X'
    exact ⟨t2, st t2 a1, b1⟩
  · obtain ⟨k1, k2, k3⟩ := vx_keep h0 e1 hS hAX hf hL hF
    obtain ⟨t2, a1, b1⟩ := kx E ce q u t T'.heap (locs ++ L) e1.symm (by rw [← e2]; exact X'.warmed.alike) hp hb k1 k2 k3 (by rw [e1]; exact hce) hcv hcl T' rfl X'
    exact ⟨t2, st.trans a1, b1⟩
/-- caught by the row x of this method's table; the rows ahead don't take it -/
theorem vx_catch {own name : String} {E : String} {ce : Cell} {q : Addr} (hown : s.vm.findClass own = some m.cls) (pre : List ExceptionTableEntry) (x : ExceptionTableEntry) (suf : List ExceptionTableEntry) (hsplit : c.exceptionTable.toList = pre ++ x :: suf)
    (hpass : ∀ z ∈ pre, covers z pc = false ∨ (z.catchType ≠ 0 ∧ ∃ nm : String, (Cond.classLink own z.catchType nm).before args s = true ∧ va_Nc E nm s)) (hx : covers x pc = true) (h0 : x.catchType ≠ 0)
    (hlink : (Cond.classLink own x.catchType name).before args s = true) (hcast : (Cond.castable E name).before args s = true) (hcell : H[q]? = some ce) (hv : ce.vm = .none) (hcl : s.vm.findClass E = some ce.cls)
    (kk : W p l e R s m args below meth c H locs cells slots Q (F0 m x.handlerPc ls [.ref q])) : vx_W p l e R s m args below meth c H locs cells slots Q (F0 m pc ls rest) q := by
  intro T hT X
  have hpl : e.platform.magicAccessors = ({} : Platform).magicAccessors := by rw [X.admits.platform]
  obtain ⟨c3, c4, hc3, hc4, hasg⟩ := Cond.castable_spec hcast
  cases Option.some.inj (hc3.symm.trans hcl)
  obtain ⟨c5, hc5, hcl5⟩ := Cond.classLink_spec hown hlink e.platform hpl
  cases Option.some.inj (hc4.symm.trans hc5)
  obtain ⟨vm', X', st⟩ := Jvm.Stand.thenCaughtThrough X q (g := F0 m pc ls rest) rfl (Steps.refl _) (by rw [hT]; exact hcell) (by rw [hv]; rfl) (by obtain ⟨k9, h9, -⟩ := Vm.findClass_spec hcl; exact ⟨k9, h9⟩) pre x suf hsplit
    (fun z hz => by
      rcases hpass z hz with h | ⟨hz0, nm, hl1, hn1⟩
      · exact Or.inl h
      · obtain ⟨c6, hc6, hcl6⟩ := Cond.classLink_spec hown hl1 e.platform hpl
        obtain ⟨a8, b8, h1, h2, h3⟩ := hn1
        cases Option.some.inj (h1.symm.trans hcl)
        cases Option.some.inj (h2.symm.trans hc6)
        exact Or.inr ⟨hz0, _, hcl6, h3⟩) hx (Or.inr ⟨h0, c4, hcl5, hasg⟩)
  obtain ⟨t, a1, b1⟩ := kk (T.setVm vm') hT X'
  exact ⟨t, st.trans a1, b1⟩
end Rows
section Ends
variable {p : Program} {l : Launch} {e : Env} {R : Room} {s : State} {m : MethodId} {args : Array Value} {below : List Frame} {meth : Method} {c : Code} {H : Heap} {locs : List Loc} {cells slots : Nat} {Q : State → Prop}
variable {mc ms : Nat} {free : Addr → Prop} {A0 A1 : Nat → Prop} {H0 : Heap} {a : Array Value} {ls : Array Slot} {st0 rest : List Value}
variable {Qc : Array Value → State → Outcome → State → Prop} {XC : String → State → State → Prop}
/-- what a body that may throw owes at its end -/
def vx_MQ (below : List Frame) (Qc : Array Value → State → Outcome → State → Prop) (XC : String → State → State → Prop) (a : Array Value) (s : State) (mc ms : Nat) (free : Addr → Prop) : State → Prop := fun t =>
  ∃ o, t.status = .running ∧ Ended t below o ∧ vx_Q Qc XC mc ms free a s o t
theorem vx_ret {g : JFrame} {mc ms : Nat} (k : W p l e R s m args below meth c H locs cells slots (MQ below Qc args s mc ms free) g) : W p l e R s m args below meth c H locs cells slots (vx_MQ below Qc XC args s mc ms free) g := by
  intro T hT X
  obtain ⟨t, a1, o, b1, b2, b3, b4⟩ := k T hT X
  exact ⟨t, a1, o, b1, b2, Or.inl ⟨b3, b4⟩⟩
/-- not caught here: it goes on to the caller -/
theorem vx_widen {g : JFrame} {q : Addr} {k n : Nat} (h1 : cells ≤ k) (h2 : slots ≤ n) (kk : vx_W p l e R s m args below meth c H locs k n Q g q) : vx_W p l e R s m args below meth c H locs cells slots Q g q := fun T hT X => kk T hT (stand_widen X h1 h2)
theorem vx_out {pc : Nat} {E : String} {ce : Cell} {q : Addr} {mc ms : Nat} (hout : ∀ x ∈ c.exceptionTable.toList, covers x pc = false) (hlocks : meth.locks = false) (hcell : H[q]? = some ce) (hv : ce.vm = .none) (hcl : s.vm.findClass E = some ce.cls)
    (hx : ∀ t : State, t.heap = H → s.vm.Alike t.vm → XC E s t) (hf : ∀ z ∈ locs, free z.base) (hc : cells ≤ mc) (hs : slots ≤ ms) :
    vx_W p l e R s m args below meth c H locs cells slots (vx_MQ below Qc XC args s mc ms free) (F0 m pc ls rest) q := by
  intro T hT X
  obtain ⟨st1, hrun, hend, hW, hsm⟩ := X.leaveThrown q (g := F0 m pc ls rest) rfl rfl rfl hout hlocks
  have hcell9 : (T.setFrames (.throwing q :: below)).heap[q]? = some ce := by
    show T.heap[q]? = some ce
    rw [hT]; exact hcell
  exact ⟨_, st1, .threw q, hrun, hend, Or.inr ⟨q, rfl, E, ce, locs, hx _ hT hW.alike, hcell9, hv, hcl, hW, hsm.mono hc hs, hf⟩⟩
theorem vx_frame {U : State} {k n : Nat} (h : s.sameButNew ({ U with vm := s.vm } : State) locs k n) : s.heap.size ≤ U.heap.size ∧ ∀ q : Nat, q < s.heap.size → (∀ z ∈ locs, z.base ≠ q) → U.heap[q]? = s.heap[q]? := by
  obtain ⟨-, h2, -, -, -, h6⟩ := h
  refine ⟨h2, fun q hq hz => ?_⟩
  obtain ⟨c9, e1, e2, e3, e4⟩ := h6 q _ (Array.getElem?_eq_getElem hq)
  have hs : c9.slots = (s.heap[q]).slots := Array.ext_getElem? fun i => e4 i fun hm => hz _ hm rfl
  have h9 : c9 = s.heap[q] := by
    rw [hs] at e2
    exact e2
  have e5 : U.heap[q]? = some c9 := e1
  rw [e5, h9, Array.getElem?_eq_getElem hq]
/-- the words of a throw but the four that speak of the heap -/
def vx_no (w : Cond) : Bool := decide (w ≠ .isRef (.static Bundle.tN "UNASSIGNED_STACK" Bundle.steD)) && decide (w ≠ .isRef (.static Bundle.tN "SUPPRESSED_SENTINEL" Bundle.listD)) && decide (w ≠ .laysStatic Bundle.tN "UNASSIGNED_STACK" Bundle.steD) && decide (w ≠ .laysStatic Bundle.tN "SUPPRESSED_SENTINEL" Bundle.listD)
def vx_at0 (own : String) (ic : Nat) (X : String) (names : List String) : List Cond := (Bundle.ownAtoms0 own ic X names).filter vx_no
def vx_atS (own : String) (ic : Nat) (X : String) (names : List String) : List Cond := (Bundle.ownAtoms own ic X names).filter vx_no
/-- a word that the tables alone decide, or a good one -/
def vx_ot (w : Cond) : Bool := w.onTables || goodWord w
theorem vx_ot_at {args a' : Array Value} {s U : State} {w : Cond} (hW : s.WarmedH U.vm) (hvm : s.vm = U.vm) (hg : vx_ot w = true) (h : w.before args s = true) : w.before a' U = true := by
  simp only [vx_ot, Bool.or_eq_true] at hg
  rcases hg with hg | hg
  · exact va_tabs hg hvm h
  · exact word_at hW (good_of_word hg) h
/-- a list's words: the good ones out of the method's own list, the others by premises of their own -/
theorem vx_hat {args : Array Value} {s : State} {L B : List Cond} (h1 : ∀ w ∈ L.filter goodWord, w.before args s = true) (h2 : ∀ w ∈ L.filter (fun w => !goodWord w), w ∈ B) (h3 : ∀ w ∈ B, w.before args s = true) : ∀ w ∈ L, w.before args s = true := by
  intro w hw
  by_cases g : goodWord w = true
  · exact h1 w (List.mem_filter.mpr ⟨hw, g⟩)
  · refine h3 w (h2 w (List.mem_filter.mpr ⟨hw, ?_⟩))
    show (!goodWord w) = true
    cases hgw : goodWord w
    · rfl
    · exact absurd hgw g
theorem vx_c {args : Array Value} {s : State} {w : Cond} {B : List Cond} (h : w.before args s = true) (t : ∀ w ∈ B, w.before args s = true) : ∀ w' ∈ w :: B, w'.before args s = true := fun w' h' => (List.mem_cons.mp h').elim (fun e => by rw [e]; exact h) (t w')
theorem vx_n {args : Array Value} {s : State} : ∀ w ∈ ([] : List Cond), w.before args s = true := fun _ h => nomatch h
theorem vx_own {args : Array Value} {s : State} {L : List Cond} (h1 : ∀ w ∈ L.filter vx_no, w.before args s = true)
    (hU : (Cond.isRef (.static Bundle.tN "UNASSIGNED_STACK" Bundle.steD)).before args s = true) (hN : (Cond.isRef (.static Bundle.tN "SUPPRESSED_SENTINEL" Bundle.listD)).before args s = true)
    (lU : (Cond.laysStatic Bundle.tN "UNASSIGNED_STACK" Bundle.steD).before args s = true) (lN : (Cond.laysStatic Bundle.tN "SUPPRESSED_SENTINEL" Bundle.listD).before args s = true) : ∀ w ∈ L, w.before args s = true := by
  intro w hw
  by_cases e1 : w = .isRef (.static Bundle.tN "UNASSIGNED_STACK" Bundle.steD)
  · rw [e1]; exact hU
  · by_cases e2 : w = .isRef (.static Bundle.tN "SUPPRESSED_SENTINEL" Bundle.listD)
    · rw [e2]; exact hN
    · by_cases e3 : w = .laysStatic Bundle.tN "UNASSIGNED_STACK" Bundle.steD
      · rw [e3]; exact lU
      · by_cases e4 : w = .laysStatic Bundle.tN "SUPPRESSED_SENTINEL" Bundle.listD
        · rw [e4]; exact lN
        · exact h1 w (List.mem_filter.mpr ⟨hw, by unfold vx_no; rw [decide_eq_true e1, decide_eq_true e2, decide_eq_true e3, decide_eq_true e4]; rfl⟩)
/-- where a static field lies, its class's statics cell in H -/
def vx_L (C n d : String) (A : Nat → Prop) (U : State) (H : Heap) : Prop := ∃ (c : ClassId) (k : Class) (i : Nat) (f : Field) (a : Nat) (cell : Cell), U.vm.findClass C = some c ∧ U.fieldFound? C n d = some (c, k, i, f) ∧ f.isStatic = true ∧ k.statics = some a ∧ H[a]? = some cell ∧ cell.vm.isStatics = true ∧ cell.cls = c ∧ f.slot < cell.slots.size ∧ k.staticTypes[f.slot]? = some f.type ∧ ¬ A a
theorem vx_L.moved {C n d : String} {A : Nat → Prop} {u U : State} {H : Heap} (hvm : u.vm.Alike U.vm) (h : vx_L C n d A u H) : vx_L C n d A U H := by
  obtain ⟨c, k, i, f, a, cell, h1, h2, h3, h4, h5, h6, h7, h8, h9, h10⟩ := h
  obtain ⟨k', hi', he⟩ := State.fieldFound?_setVm hvm h2
  exact ⟨c, k', i, f, a, cell, by rw [hvm.findClass]; exact h1, hi', h3, by rw [he]; exact h4, h5, h6, h7, h8, by rw [he]; exact h9, h10⟩
theorem vx_L.kept {C n d : String} {A : Nat → Prop} {U : State} {H H1 : Heap} (h : vx_L C n d A U H) (hq : ∀ a : Nat, a < H.size → ¬ A a → H1[a]? = H[a]?) : vx_L C n d A U H1 := by
  obtain ⟨c, k, i, f, a, cell, h1, h2, h3, h4, h5, h6, h7, h8, h9, h10⟩ := h
  exact ⟨c, k, i, f, a, cell, h1, h2, h3, h4, by rw [hq a (Array.getElem?_eq_some_iff.mp h5).1 h10]; exact h5, h6, h7, h8, h9, h10⟩
theorem vx_L.narrow {C n d : String} {A B : Nat → Prop} {U : State} {H : Heap} (h : vx_L C n d A U H) (hAB : ∀ q, B q → A q) : vx_L C n d B U H := by
  obtain ⟨c, k, i, f, a, cell, h1, h2, h3, h4, h5, h6, h7, h8, h9, h10⟩ := h
  exact ⟨c, k, i, f, a, cell, h1, h2, h3, h4, h5, h6, h7, h8, h9, fun z => h10 (hAB _ z)⟩
theorem vx_L.word {C n d : String} {A : Nat → Prop} {s : State} {args : Array Value} (h : vx_L C n d A s s.heap) : (Cond.laysStatic C n d).before args s = true := by
  obtain ⟨c, k, i, f, a, cell, h1, h2, h3, h4, h5, h6, h7, h8, h9, -⟩ := h
  show (Cond.laysStatic C n d).holds args s none s [] = true
  exact Cond.laysStatic_of h1 h2 h3 h4 h5 h6 h7 h8 h9
/-- .. and what it holds: null or some reference -/
def vx_Zq (C n d : String) (A : Nat → Prop) (U : State) (H : Heap) : Prop := va_Zq C n d A U H ∧ vx_L C n d A U H
theorem vx_Zq.moved {C n d : String} {A : Nat → Prop} {u U : State} {H : Heap} (hvm : u.vm.Alike U.vm) (h : vx_Zq C n d A u H) : vx_Zq C n d A U H := ⟨va_Zq.moved hvm h.1, vx_L.moved hvm h.2⟩
theorem vx_Zq.kept {C n d : String} {A : Nat → Prop} {U : State} {H H1 : Heap} (h : vx_Zq C n d A U H) (hq : ∀ a : Nat, a < H.size → ¬ A a → H1[a]? = H[a]?) : vx_Zq C n d A U H1 := ⟨va_Zq.kept h.1 hq, vx_L.kept h.2 hq⟩
theorem vx_Zq.narrow {C n d : String} {A B : Nat → Prop} {U : State} {H : Heap} (h : vx_Zq C n d A U H) (hAB : ∀ q, B q → A q) : vx_Zq C n d B U H := ⟨va_Zq.narrow h.1 hAB, vx_L.narrow h.2 hAB⟩
theorem vx_Zqof {args : Array Value} {s : State} {C n d : String} {A : Nat → Prop} (hl : (Cond.laysStatic C n d).before args s = true) (hini : (Cond.initialized C).before args s = true) (h : (Cond.isRef (.static C n d)).before args s = true) (hA : ∀ a : Nat, a < s.heap.size → ¬ A a) : vx_Zq C n d A s s.heap := by
  refine ⟨va_Zqof hl hini h hA, ?_⟩
  obtain ⟨c, k, i, f, a, cell, h1, h2, h3, h4, h5, h6, h7, h8, h9⟩ := Cond.laysStatic_spec hl
  exact ⟨c, k, i, f, a, cell, h1, h2, h3, h4, h5, h6, h7, h8, h9, hA a (Array.getElem?_eq_some_iff.mp h5).1⟩
theorem vx_isRef {C n d : String} {v : Value} {A : Nat → Prop} {s : State} {args : Array Value} (h : va_Z C n d v A s s.heap) (hv : v.isRef = true) : (Cond.isRef (.static C n d)).before args s = true := by
  obtain ⟨cf, kf, fi, f, a, cell, h1, h2, h3, h4, h5, h6, h7, -⟩ := h
  have he : (Term.static C n d).eval args s none [] s = some v := by
    simp [Term.eval, State.fieldNamed?, h1, h2, h4, h5, h6, h7]
  simp only [Cond.before, Cond.holds, Cond.value, he]
  cases v <;> simp_all [Value.isRef]
theorem vx_isRefq {C n d : String} {A : Nat → Prop} {s : State} {args : Array Value} (h : va_Zq C n d A s s.heap) : (Cond.isRef (.static C n d)).before args s = true := by
  rcases h with h | ⟨t, h⟩
  · exact vx_isRef h rfl
  · exact vx_isRef h rfl
/-- the same frame, seen from here: as if the method were called anew in this heap -/
theorem vx_rebase {T : State} (X : Stand p l e R s m args below meth c T locs cells slots) {R' : Room} (hf : R'.frames ≤ R.frames) (hl : R'.locals ≤ R.locals) (hc : cells + R'.cells ≤ R.cells) (hs : slots + R'.slots ≤ R.slots) :
    Stand p l e R' ((T.setVm s.vm).setFrames (.invoking m args :: below)) m args below meth c T [] 0 0 := by
  have htop : (T.setVm s.vm).topJava?.isSome := X.here.top
  have hF : ((T.setVm s.vm).setFrames (.invoking m args :: below)).frames = .invoking m args :: below := State.frames_setFrames _ (State.cur_lt_of_top htop)
  obtain ⟨g₀, hg0⟩ := Option.isSome_iff_exists.mp htop
  obtain ⟨r, hr⟩ := State.topJava?_eq_some.mp hg0
  have hl9 : e.platform.stackLimits (T.setVm s.vm).me = e.platform.stackLimits s.me := X.limits
  have hb9 : (T.setVm s.vm).me.stackBytes = s.me.stackBytes := X.bytes
  refine ⟨X.admits, X.cas, X.clock, hF, ?_, X.hears, X.method, X.code, X.here, X.tail, X.warmed, ?_, ?_, ?_⟩
  · have h := X.room
    have hU : ((T.setVm s.vm).setFrames (.invoking m args :: below)).localsInUse = s.localsInUse := by
      rw [State.localsInUse_invoking hF (meth := meth) (c := c) X.method X.code, State.localsInUse_invoking X.frames X.method X.code]
    simp only [State.hasRoom, Bool.and_eq_true, decide_eq_true_eq] at h ⊢
    obtain ⟨⟨⟨⟨h1, h2, h3, h4, h5, h6⟩, h7⟩, h8⟩, h9⟩ := h
    rw [X.frames, List.length_cons] at h2 h3
    have q1 := X.heapSize
    have q2 := X.used
    simp only [hF, hU, List.length_cons, State.stackLimits_setFrames, State.stackBytes_setFrames, hl9, hb9]
    refine ⟨⟨⟨⟨by omega, by omega, by omega, by omega, by omega, h6⟩, ?_⟩, ?_⟩, X.book⟩
    · show T.heap.size + R'.cells ≤ e.platform.maxCells
      omega
    · show T.slotsUsed + R'.slots ≤ e.platform.maxSlots
      omega
  · rw [State.stackLimits_setFrames]; rfl
  · rw [State.stackBytes_setFrames]; rfl
  · refine ⟨?_, Nat.le_refl _, Nat.le_refl _, ?_, ?_, fun a c9 h9 => ⟨c9, h9, rfl, rfl, fun _ _ => rfl⟩⟩
    · obtain ⟨t, ht, -⟩ := State.frames_cons hr
      show T.setVm s.vm = { ((T.setVm s.vm).setFrames (.invoking m args :: below)).setFrames (T.setVm s.vm).frames with heap := T.heap, slotsUsed := T.slotsUsed }
      rw [State.setFrames_setFrames, State.setFrames_self ht]
      rfl
    · show T.slotsUsed = T.slotsUsed + ((T.heap.toList.drop T.heap.size).map (·.slots.size)).sum
      rw [List.drop_eq_nil_of_le (Nat.le_of_eq Array.length_toList)]
      rfl
    · show ((T.heap.toList.drop T.heap.size).map (·.slots.size)).sum ≤ 0
      rw [List.drop_eq_nil_of_le (Nat.le_of_eq Array.length_toList)]
      exact Nat.le_refl _
/-- 'throw new E()': new; dup; invokespecial; athrow -/
theorem vx_throw0 {cc : ByteArray} {pc : Nat} (hexec : p.tables.exec = Jvm.exec) (hb : c.code = cc) (hl : l.stackTraces = false) {own cls : String} {names : List String} {ik ic mc ms : Nat} {A : Nat → Prop}
    (hown : s.vm.findClass own = some m.cls) (hcls : Bundle.fit cls = true) (hnames : ∀ n ∈ names, Bundle.fit n = true)
    (hk : (Cond.classLink own ik cls).before args s = true) (hini : (Cond.initialized cls).before args s = true) (hat : ∀ w ∈ vx_at0 own ic cls names, w.before args s = true)
    (hgood : ∀ w ∈ Cond.classLink own ik cls :: Cond.initialized cls :: vx_at0 own ic cls names, vx_ot w = true)
    (hU : vx_Zq Bundle.tN "UNASSIGNED_STACK" Bundle.steD A s s.heap) (hN : vx_Zq Bundle.tN "SUPPRESSED_SENTINEL" Bundle.listD A s s.heap) (hS : va_S A s.heap H locs) (hsize : ls.size = c.maxLocals)
    (d0 : decode cc pc = .ok (.new ik, 3)) (d3 : decode cc (pc + 3) = .ok (.dup, 1)) (d4 : decode cc (pc + 4) = .ok (.invokespecial ic, 3)) (d7 : decode cc (pc + 7) = .ok (.athrow, 1))
    (hout : ∀ x ∈ c.exceptionTable.toList, covers x (pc + 7) = false)
    (hRframes : names.length + 3 < R.frames) (hRlocals : (rest.map fun v => v.category).sum + (13 * (names.length + 1) + 42) ≤ R.locals) (hRcells : cells + 1 ≤ R.cells) (hRslots : slots + 6 ≤ R.slots) (hlocks : meth.locks = false)
    (hx : ∀ t : State, s.vm.Alike t.vm → H.size ≤ t.heap.size → (∀ q : Nat, q < H.size → t.heap[q]? = H[q]?) → XC cls s t)
    (hf : ∀ z ∈ locs, free z.base) (hc : cells + 1 ≤ mc) (hs : slots + 6 ≤ ms) :
    W p l e R s m args below meth c H locs cells slots (vx_MQ below Qc XC args s mc ms free) (F0 m pc ls rest) := by
  intro T hT X
  have htr : e.platform.stackTraces = false := (show e.platform.stackTraces = l.stackTraces by rw [X.admits.platform]).trans hl
  have Y := vx_rebase X (R' := { frames := R.frames, locals := R.locals, cells := 1, slots := 6 }) (Nat.le_refl _) (Nat.le_refl _) hRcells hRslots
  obtain ⟨s', hA⟩ : ∃ z, z = (T.setVm s.vm).setFrames (.invoking m args :: below) := ⟨_, rfl⟩
  rw [← hA] at Y
  have hvm : s'.vm = s.vm := by rw [hA]; rfl
  have hhp : s'.heap = H := by rw [hA]; exact hT
  have hW0 : s.WarmedH s'.vm := by rw [hvm]; exact State.WarmedH.refl s
  have hat' : ∀ w ∈ vx_at0 own ic cls names, w.before args s' = true := fun w hw => vx_ot_at hW0 hvm.symm (hgood w (List.mem_cons_of_mem _ (List.mem_cons_of_mem _ hw))) (hat w hw)
  have hk' : (Cond.classLink own ik cls).before args s' = true := vx_ot_at hW0 hvm.symm (hgood _ List.mem_cons_self) hk
  have hini' : (Cond.initialized cls).before args s' = true := vx_ot_at hW0 hvm.symm (hgood _ (List.mem_cons_of_mem _ List.mem_cons_self)) hini
  have hU' : vx_Zq Bundle.tN "UNASSIGNED_STACK" Bundle.steD A s' s'.heap := by rw [hhp]; exact vx_Zq.moved hW0.alike (hU.kept hS.2.1)
  have hN' : vx_Zq Bundle.tN "SUPPRESSED_SENTINEL" Bundle.listD A s' s'.heap := by rw [hhp]; exact vx_Zq.moved hW0.alike (hN.kept hS.2.1)
  have h : ∀ w ∈ Bundle.ownAtoms0 own ic cls names, w.before args s' = true := vx_own hat' (vx_isRefq hU'.1) (vx_isRefq hN'.1) hU'.2.word hN'.2.word
  have hown' : s'.vm.findClass own = some m.cls := by rw [hvm]; exact hown
  have hins : (Cond.instantiable cls 6).before args s' = true := h _ (by simp [Bundle.ownAtoms0])
  obtain ⟨vm₁, cX, kX, hfX, hkX, -, -, X₁, st1⟩ := Y.newCold hexec (own := own) (C := cls) (index := ik) (n := 6) hown' hk' hins hini'
    (g := F0 m pc ls rest) rfl (by rw [hb]; exact d0) (Nat.le_refl _) (Nat.le_refl _)
  generalize hT1 : (T.setVm vm₁).pushCell { cls := cX, slots := kX.instanceTypes.map defaultValue, vm := .none } = T1 at X₁ st1
  have hcat : (Value.ref T.heap.size).category = 1 := rfl
  have hcellA : T1.heap[T.heap.size]? = some (freshCell cX kX) := by rw [← hT1]; exact State.heap_pushCell_size _ _
  have d3' : decode c.code (pc + 3) = .ok (.dup, 1) := by rw [hb]; exact d3
  obtain ⟨U, hsteps, hrun, hend, hW, hsame, ce, hce, hO⟩ := X₁.ctorThrow0 hexec htr (own := own) (cls := cls) (names := names) (ic := ic) hown' hcls hnames h (fun x hx => nomatch hx) hfX hkX hcellA (by rw [hhp, hT]; exact Nat.le_refl _)
    (g := { method := m, pc := pc + 4, locals := ls, stack := .ref T.heap.size :: .ref T.heap.size :: rest, locked := none }) rfl hsize rfl rfl (rest := rest) rfl
    (by rw [hb]; exact d4) (by rw [hb]; exact d7) hout hRframes (by simp only [List.map_cons, List.sum_cons, hcat]; omega) hlocks
  obtain ⟨f1, f2⟩ := vx_frame hsame
  rw [hhp] at f1 f2
  have hWs : s.WarmedH U.vm := State.WarmedH.trans hW0 hW
  have hcl : s.vm.findClass cls = some ce.cls := by
    have h9 := hO.cls
    rw [hvm] at h9
    exact h9
  have hall : s.sameButNew ({ U with vm := s.vm } : State) locs mc ms := by
    subst hA
    obtain ⟨e1, e2⟩ := hsame
    rw [State.setFrames_setFrames] at e1
    have h2 : (T.setVm s.vm).sameButNew ({ U with vm := s.vm } : State) [] (0 + 1) (0 + 6) := ⟨e1, e2⟩
    have h3 := X.same.trans h2
    rw [List.append_nil] at h3
    exact h3.mono hc hs
  refine ⟨U, ?_, .threw T.heap.size, hrun, hend, Or.inr ⟨T.heap.size, rfl, cls, ce, locs, hx U hWs.alike f1 (fun q hq => f2 q hq (fun z hz => nomatch hz)), hce, hO.vm, hcl, hWs, hall, hf⟩⟩
  refine st1 _ ?_
  show Steps p.tables e below (T1.setTop { method := m, pc := pc + 3, locals := ls, stack := .ref T.heap.size :: rest, locked := none }) _
  jvm_step X₁.here [X₁.here.top, hexec, d3', Value.category]
  exact hsteps
/-- 'throw new E("text")': new; dup; ldc; invokespecial; athrow -/
theorem vx_throwS {cc : ByteArray} {pc : Nat} (hexec : p.tables.exec = Jvm.exec) (hb : c.code = cc) (hl : l.stackTraces = false) {own cls text : String} {names : List String} {ik is ic mc ms sa : Nat} {A : Nat → Prop}
    (hown : s.vm.findClass own = some m.cls) (hcls : Bundle.fit cls = true) (hnames : ∀ n ∈ names, Bundle.fit n = true)
    (hk : (Cond.classLink own ik cls).before args s = true) (hini : (Cond.initialized cls).before args s = true) (hstr : vk_R own is text sa s) (hat : ∀ w ∈ vx_atS own ic cls names, w.before args s = true)
    (hgood : ∀ w ∈ Cond.classLink own ik cls :: Cond.initialized cls :: vx_atS own ic cls names, vx_ot w = true)
    (hU : vx_Zq Bundle.tN "UNASSIGNED_STACK" Bundle.steD A s s.heap) (hN : vx_Zq Bundle.tN "SUPPRESSED_SENTINEL" Bundle.listD A s s.heap) (hS : va_S A s.heap H locs) (hsize : ls.size = c.maxLocals)
    (d0 : decode cc pc = .ok (.new ik, 3)) (d3 : decode cc (pc + 3) = .ok (.dup, 1)) (d4 : decode cc (pc + 4) = .ok (.ldc is, 2)) (d6 : decode cc (pc + 6) = .ok (.invokespecial ic, 3)) (d9 : decode cc (pc + 9) = .ok (.athrow, 1))
    (hout : ∀ x ∈ c.exceptionTable.toList, covers x (pc + 9) = false)
    (hRframes : names.length + 3 < R.frames) (hRlocals : (rest.map fun v => v.category).sum + (13 * (names.length + 1) + 43) ≤ R.locals) (hRcells : cells + 1 ≤ R.cells) (hRslots : slots + 6 ≤ R.slots) (hlocks : meth.locks = false)
    (hx : ∀ t : State, s.vm.Alike t.vm → H.size ≤ t.heap.size → (∀ q : Nat, q < H.size → t.heap[q]? = H[q]?) → XC cls s t)
    (hf : ∀ z ∈ locs, free z.base) (hc : cells + 1 ≤ mc) (hs : slots + 6 ≤ ms) :
    W p l e R s m args below meth c H locs cells slots (vx_MQ below Qc XC args s mc ms free) (F0 m pc ls rest) := by
  intro T hT X
  have htr : e.platform.stackTraces = false := (show e.platform.stackTraces = l.stackTraces by rw [X.admits.platform]).trans hl
  have Y := vx_rebase X (R' := { frames := R.frames, locals := R.locals, cells := 1, slots := 6 }) (Nat.le_refl _) (Nat.le_refl _) hRcells hRslots
  obtain ⟨s', hA⟩ : ∃ z, z = (T.setVm s.vm).setFrames (.invoking m args :: below) := ⟨_, rfl⟩
  rw [← hA] at Y
  have hvm : s'.vm = s.vm := by rw [hA]; rfl
  have hhp : s'.heap = H := by rw [hA]; exact hT
  have hW0 : s.WarmedH s'.vm := by rw [hvm]; exact State.WarmedH.refl s
  have hat' : ∀ w ∈ vx_atS own ic cls names, w.before args s' = true := fun w hw => vx_ot_at hW0 hvm.symm (hgood w (List.mem_cons_of_mem _ (List.mem_cons_of_mem _ hw))) (hat w hw)
  have hk' : (Cond.classLink own ik cls).before args s' = true := vx_ot_at hW0 hvm.symm (hgood _ List.mem_cons_self) hk
  have hini' : (Cond.initialized cls).before args s' = true := vx_ot_at hW0 hvm.symm (hgood _ (List.mem_cons_of_mem _ List.mem_cons_self)) hini
  have hU' : vx_Zq Bundle.tN "UNASSIGNED_STACK" Bundle.steD A s' s'.heap := by rw [hhp]; exact vx_Zq.moved hW0.alike (hU.kept hS.2.1)
  have hN' : vx_Zq Bundle.tN "SUPPRESSED_SENTINEL" Bundle.listD A s' s'.heap := by rw [hhp]; exact vx_Zq.moved hW0.alike (hN.kept hS.2.1)
  have h : ∀ w ∈ Bundle.ownAtoms own ic cls names, w.before args s' = true := vx_own hat' (vx_isRefq hU'.1) (vx_isRefq hN'.1) hU'.2.word hN'.2.word
  have hown' : s'.vm.findClass own = some m.cls := by rw [hvm]; exact hown
  have hins : (Cond.instantiable cls 6).before args s' = true := h _ (by simp [Bundle.ownAtoms])
  obtain ⟨vm₁, cX, kX, hfX, hkX, -, -, X₁, st1⟩ := Y.newCold hexec (own := own) (C := cls) (index := ik) (n := 6) hown' hk' hins hini'
    (g := F0 m pc ls rest) rfl (by rw [hb]; exact d0) (Nat.le_refl _) (Nat.le_refl _)
  generalize hT1 : (T.setVm vm₁).pushCell { cls := cX, slots := kX.instanceTypes.map defaultValue, vm := .none } = T1 at X₁ st1
  have hcat : (Value.ref T.heap.size).category = 1 := rfl
  have hcellA : T1.heap[T.heap.size]? = some (freshCell cX kX) := by rw [← hT1]; exact State.heap_pushCell_size _ _
  have d3' : decode c.code (pc + 3) = .ok (.dup, 1) := by rw [hb]; exact d3
  have d4' : decode c.code (pc + 4) = .ok (.ldc is, 2) := by rw [hb]; exact d4
  have hstr' : vk_R own is text sa s' := vk_R.warm hW0 hstr
  obtain ⟨U, hsteps, hrun, hend, hW, hsame, ce, hce, hO⟩ := X₁.ctorThrowS hexec htr (own := own) (cls := cls) (names := names) (ic := ic) hown' hcls hnames h (fun x hx => nomatch hx) hfX hkX hcellA (by rw [hhp, hT]; exact Nat.le_refl _) (msg := .ref sa) rfl
    (g := { method := m, pc := pc + 6, locals := ls, stack := .ref sa :: .ref T.heap.size :: .ref T.heap.size :: rest, locked := none }) rfl hsize rfl rfl (rest := rest) rfl
    (by rw [hb]; exact d6) (by rw [hb]; exact d9) hout hRframes (by simp only [List.map_cons, List.sum_cons, hcat]; omega) hlocks
  obtain ⟨f1, f2⟩ := vx_frame hsame
  rw [hhp] at f1 f2
  have hWs : s.WarmedH U.vm := State.WarmedH.trans hW0 hW
  have hcl : s.vm.findClass cls = some ce.cls := by
    have h9 := hO.cls
    rw [hvm] at h9
    exact h9
  have hall : s.sameButNew ({ U with vm := s.vm } : State) locs mc ms := by
    subst hA
    obtain ⟨e1, e2⟩ := hsame
    rw [State.setFrames_setFrames] at e1
    have h2 : (T.setVm s.vm).sameButNew ({ U with vm := s.vm } : State) [] (0 + 1) (0 + 6) := ⟨e1, e2⟩
    have h3 := X.same.trans h2
    rw [List.append_nil] at h3
    exact h3.mono hc hs
  refine ⟨U, ?_, .threw T.heap.size, hrun, hend, Or.inr ⟨T.heap.size, rfl, cls, ce, locs, hx U hWs.alike f1 (fun q hq => f2 q hq (fun z hz => nomatch hz)), hce, hO.vm, hcl, hWs, hall, hf⟩⟩
  refine st1 _ ?_
  show Steps p.tables e below (T1.setTop { method := m, pc := pc + 3, locals := ls, stack := .ref T.heap.size :: rest, locked := none }) _
  jvm_step X₁.here [X₁.here.top, hexec, d3', Value.category]
  exact X₁.ldcString hexec (own := own) (text := text) (index := is) (a := sa) hown' hstr'.1 hstr'.2
    (g := { method := m, pc := pc + 4, locals := ls, stack := .ref T.heap.size :: .ref T.heap.size :: rest, locked := none }) rfl d4' _ hsteps
/-- 'throw new E("text")', the text by a wide index -/
theorem vx_throwSW {cc : ByteArray} {pc : Nat} (hexec : p.tables.exec = Jvm.exec) (hb : c.code = cc) (hl : l.stackTraces = false) {own cls text : String} {names : List String} {ik is ic mc ms sa : Nat} {A : Nat → Prop}
    (hown : s.vm.findClass own = some m.cls) (hcls : Bundle.fit cls = true) (hnames : ∀ n ∈ names, Bundle.fit n = true)
    (hk : (Cond.classLink own ik cls).before args s = true) (hini : (Cond.initialized cls).before args s = true) (hstr : vk_R own is text sa s) (hat : ∀ w ∈ vx_atS own ic cls names, w.before args s = true)
    (hgood : ∀ w ∈ Cond.classLink own ik cls :: Cond.initialized cls :: vx_atS own ic cls names, vx_ot w = true)
    (hU : vx_Zq Bundle.tN "UNASSIGNED_STACK" Bundle.steD A s s.heap) (hN : vx_Zq Bundle.tN "SUPPRESSED_SENTINEL" Bundle.listD A s s.heap) (hS : va_S A s.heap H locs) (hsize : ls.size = c.maxLocals)
    (d0 : decode cc pc = .ok (.new ik, 3)) (d3 : decode cc (pc + 3) = .ok (.dup, 1)) (d4 : decode cc (pc + 4) = .ok (.ldc_w is, 3)) (d7 : decode cc (pc + 7) = .ok (.invokespecial ic, 3)) (d10 : decode cc (pc + 10) = .ok (.athrow, 1))
    (hout : ∀ x ∈ c.exceptionTable.toList, covers x (pc + 10) = false)
    (hRframes : names.length + 3 < R.frames) (hRlocals : (rest.map fun v => v.category).sum + (13 * (names.length + 1) + 43) ≤ R.locals) (hRcells : cells + 1 ≤ R.cells) (hRslots : slots + 6 ≤ R.slots) (hlocks : meth.locks = false)
    (hx : ∀ t : State, s.vm.Alike t.vm → H.size ≤ t.heap.size → (∀ q : Nat, q < H.size → t.heap[q]? = H[q]?) → XC cls s t)
    (hf : ∀ z ∈ locs, free z.base) (hc : cells + 1 ≤ mc) (hs : slots + 6 ≤ ms) :
    W p l e R s m args below meth c H locs cells slots (vx_MQ below Qc XC args s mc ms free) (F0 m pc ls rest) := by
  intro T hT X
  have htr : e.platform.stackTraces = false := (show e.platform.stackTraces = l.stackTraces by rw [X.admits.platform]).trans hl
  have Y := vx_rebase X (R' := { frames := R.frames, locals := R.locals, cells := 1, slots := 6 }) (Nat.le_refl _) (Nat.le_refl _) hRcells hRslots
  obtain ⟨s', hA⟩ : ∃ z, z = (T.setVm s.vm).setFrames (.invoking m args :: below) := ⟨_, rfl⟩
  rw [← hA] at Y
  have hvm : s'.vm = s.vm := by rw [hA]; rfl
  have hhp : s'.heap = H := by rw [hA]; exact hT
  have hW0 : s.WarmedH s'.vm := by rw [hvm]; exact State.WarmedH.refl s
  have hat' : ∀ w ∈ vx_atS own ic cls names, w.before args s' = true := fun w hw => vx_ot_at hW0 hvm.symm (hgood w (List.mem_cons_of_mem _ (List.mem_cons_of_mem _ hw))) (hat w hw)
  have hk' : (Cond.classLink own ik cls).before args s' = true := vx_ot_at hW0 hvm.symm (hgood _ List.mem_cons_self) hk
  have hini' : (Cond.initialized cls).before args s' = true := vx_ot_at hW0 hvm.symm (hgood _ (List.mem_cons_of_mem _ List.mem_cons_self)) hini
  have hU' : vx_Zq Bundle.tN "UNASSIGNED_STACK" Bundle.steD A s' s'.heap := by rw [hhp]; exact vx_Zq.moved hW0.alike (hU.kept hS.2.1)
  have hN' : vx_Zq Bundle.tN "SUPPRESSED_SENTINEL" Bundle.listD A s' s'.heap := by rw [hhp]; exact vx_Zq.moved hW0.alike (hN.kept hS.2.1)
  have h : ∀ w ∈ Bundle.ownAtoms own ic cls names, w.before args s' = true := vx_own hat' (vx_isRefq hU'.1) (vx_isRefq hN'.1) hU'.2.word hN'.2.word
  have hown' : s'.vm.findClass own = some m.cls := by rw [hvm]; exact hown
  have hins : (Cond.instantiable cls 6).before args s' = true := h _ (by simp [Bundle.ownAtoms])
  obtain ⟨vm₁, cX, kX, hfX, hkX, -, -, X₁, st1⟩ := Y.newCold hexec (own := own) (C := cls) (index := ik) (n := 6) hown' hk' hins hini'
    (g := F0 m pc ls rest) rfl (by rw [hb]; exact d0) (Nat.le_refl _) (Nat.le_refl _)
  generalize hT1 : (T.setVm vm₁).pushCell { cls := cX, slots := kX.instanceTypes.map defaultValue, vm := .none } = T1 at X₁ st1
  have hcat : (Value.ref T.heap.size).category = 1 := rfl
  have hcellA : T1.heap[T.heap.size]? = some (freshCell cX kX) := by rw [← hT1]; exact State.heap_pushCell_size _ _
  have d3' : decode c.code (pc + 3) = .ok (.dup, 1) := by rw [hb]; exact d3
  have d4' : decode c.code (pc + 4) = .ok (.ldc_w is, 3) := by rw [hb]; exact d4
  have hstr' : vk_R own is text sa s' := vk_R.warm hW0 hstr
  obtain ⟨U, hsteps, hrun, hend, hW, hsame, ce, hce, hO⟩ := X₁.ctorThrowS hexec htr (own := own) (cls := cls) (names := names) (ic := ic) hown' hcls hnames h (fun x hx => nomatch hx) hfX hkX hcellA (by rw [hhp, hT]; exact Nat.le_refl _) (msg := .ref sa) rfl
    (g := { method := m, pc := pc + 7, locals := ls, stack := .ref sa :: .ref T.heap.size :: .ref T.heap.size :: rest, locked := none }) rfl hsize rfl rfl (rest := rest) rfl
    (by rw [hb]; exact d7) (by rw [hb]; exact d10) hout hRframes (by simp only [List.map_cons, List.sum_cons, hcat]; omega) hlocks
  obtain ⟨f1, f2⟩ := vx_frame hsame
  rw [hhp] at f1 f2
  have hWs : s.WarmedH U.vm := State.WarmedH.trans hW0 hW
  have hcl : s.vm.findClass cls = some ce.cls := by
    have h9 := hO.cls
    rw [hvm] at h9
    exact h9
  have hall : s.sameButNew ({ U with vm := s.vm } : State) locs mc ms := by
    subst hA
    obtain ⟨e1, e2⟩ := hsame
    rw [State.setFrames_setFrames] at e1
    have h2 : (T.setVm s.vm).sameButNew ({ U with vm := s.vm } : State) [] (0 + 1) (0 + 6) := ⟨e1, e2⟩
    have h3 := X.same.trans h2
    rw [List.append_nil] at h3
    exact h3.mono hc hs
  refine ⟨U, ?_, .threw T.heap.size, hrun, hend, Or.inr ⟨T.heap.size, rfl, cls, ce, locs, hx U hWs.alike f1 (fun q hq => f2 q hq (fun z hz => nomatch hz)), hce, hO.vm, hcl, hWs, hall, hf⟩⟩
  refine st1 _ ?_
  show Steps p.tables e below (T1.setTop { method := m, pc := pc + 3, locals := ls, stack := .ref T.heap.size :: rest, locked := none }) _
  jvm_step X₁.here [X₁.here.top, hexec, d3', Value.category]
  exact X₁.ldcStringW hexec (own := own) (text := text) (index := is) (a := sa) hown' hstr'.1 hstr'.2
    (g := { method := m, pc := pc + 4, locals := ls, stack := .ref T.heap.size :: .ref T.heap.size :: rest, locked := none }) rfl d4' _ hsteps
end Ends
section Bodies
variable {l : Launch}
theorem vx_ofW {y : MethodName} {ws ws' : List Cond} {rm : Room} {Pc : Array Value → State → Prop} {Qc : Array Value → State → Outcome → State → Prop} {XC : String → State → State → Prop} {mc ms : Nat} {free : Addr → Prop} {cc : ByteArray} {maxL : Nat} {ret : Option FieldType}
    (hy : plainName y.cls = true) (hw : ws = Cond.code y cc maxL ret :: ws')
    (body : ∀ p e s m args below meth c s₁, BodyLoose p l y (headSpec ws rm) cc maxL ret e s m args below meth c s₁ → c.maxLocals = maxL → (∀ x ∈ c.exceptionTable.toList, False) → Pc args s →
      W p l e (headSpec ws rm).room s m args below meth c s.heap [] 0 0 (vx_MQ below Qc XC args s mc ms free) (entryFrame m args maxL)) : vx_Met l y ws rm Pc Qc XC mc ms free := by
  refine MetFree.of_bodyS (code := cc) (maxLocals := maxL) (ret := ret) hy ?_ ?_
  · intro args s m h hn
    obtain ⟨meth, c, h1, h2, h3, h4, h5, h6, -, -⟩ := Cond.code_spec hn (atoms_spec (ws := ws) h _ (by rw [hw]; exact List.mem_cons_self))
    exact ⟨meth, c, h1, h2, h3, h4, h5, h6⟩
  · intro p e s m args below meth c s₁ B hml hP _
    have hh0 : s₁.heap = s.heap := by rw [B.state]; rfl
    have ht : ∀ x ∈ c.exceptionTable.toList, False := by
      obtain ⟨meth9, c9, h1, h2, -, -, -, -, h7, -⟩ := Cond.code_spec B.named (atoms_spec (ws := ws) B.pre _ (by rw [hw]; exact List.mem_cons_self))
      cases Option.some.inj (h1.symm.trans B.method)
      cases Option.some.inj (h2.symm.trans (Stand.of_body B).code)
      intro x hx
      rw [Array.isEmpty_iff.mp h7] at hx
      cases hx
    obtain ⟨t, a1, o, b1, b2, b3⟩ := body p e s m args below meth c s₁ B hml ht hP s₁ hh0 (Stand.of_body B)
    exact ⟨t, o, a1, b1, b2, b3⟩
/-- the table of a body with handlers -/
theorem vx_table {p : Program} {x y : MethodName} {S : Spec} {cc bytes : ByteArray} {maxL maxL' : Nat} {ret ret' : Option FieldType} {e : Env} {s s₁ : State} {m : MethodId} {args : Array Value} {below : List Frame} {meth : Method} {c : Code} {hh : List (Nat × Nat × Nat × Nat)}
    (B : BodyLoose p l y S cc maxL ret e s m args below meth c s₁) (h : (Cond.codeWith y bytes maxL' ret' hh).before args s = true) : c.exceptionTable.toList = tableOf hh := by
  obtain ⟨m9, meth9, c9, hn9, h1, h2, -, -, h6, -⟩ := Cond.codeWith_spec h
  cases Option.some.inj (hn9.symm.trans B.named)
  cases Option.some.inj (h1.symm.trans B.method)
  cases Option.some.inj (h2.symm.trans (Stand.of_body B).code)
  rw [← h6, table_eq]
end Bodies
end VXA
/-! ===== END ===== -/
/-! ===== BEGIN a static call of a method with an exception table ===== -/
section VXS
variable {p : Program} {l : Launch} {e : Env} {R : Room} {s : State} {m : MethodId} {args : Array Value} {below : List Frame} {meth : Method} {c : Code} {T : State} {H : Heap} {locs : List Loc} {cells slots : Nat}
abbrev vx_CSW (R : Room) (s : State) (args : Array Value) (own : String) (index : Nat) (y : MethodName) (bytes : ByteArray) (maxL : Nat) (ret : Option FieldType) (hh : List (Nat × Nat × Nat × Nat)) (ws : List Cond) (rm : Room) (mc ms n : Nat) : Prop :=
  (rm.cells = mc ∧ rm.slots = ms ∧ rm.frames + 1 ≤ R.frames ∧ 8 + (maxL + 11) + rm.locals ≤ R.locals ∧ (∀ w ∈ ws, ∀ (a' : Array Value) (U : State), s.WarmedH U.vm → w.before a' U = true) ∧ Cond.codeWith y bytes maxL ret hh ∈ ws) ∧
  (Cond.codeWith y bytes maxL ret hh).before args s = true ∧ (Cond.initialized y.cls).before args s = true ∧ (y.cls ≠ "java/lang/invoke/MethodHandle" ∧ y.cls ≠ "java/lang/invoke/VarHandle") ∧
  (∀ sig, parseMethodDescriptor y.desc = some sig → n = sig.parameters.length) ∧ (Cond.methodLink own index y).before args s = true ∧ (Cond.static y).before args s = true
theorem vx_cwSW {own : String} {index maxL mc ms : Nat} {y : MethodName} {bytes : ByteArray} {ret : Option FieldType} {hh : List (Nat × Nat × Nat × Nat)} {Ts ws ws' : List Cond} {rm : Room} (n : Nat) (ht : ∀ w ∈ Ts, w.before args s = true) (hT : GoodIn Ts (va_wsS own index y ws)) (hw : ws = Cond.codeWith y bytes maxL ret hh :: ws') (hrc : rm.cells = mc) (hrs : rm.slots = ms)
    (hd : y.cls ≠ "java/lang/invoke/MethodHandle" ∧ y.cls ≠ "java/lang/invoke/VarHandle" ∧ (parseMethodDescriptor y.desc).map (fun d => d.parameters.length) = some n) (hR : rm.frames + 1 ≤ R.frames ∧ 8 + (maxL + 11) + rm.locals ≤ R.locals) :
    vx_CSW R s args own index y bytes maxL ret hh ws rm mc ms n := by
  have ok : ∀ w ∈ va_wsS own index y ws, w.before args s = true := fun w h => ht w (hT w h).1
  have hG : GoodIn Ts ws := fun w h => hT w (by unfold va_wsS; exact List.mem_append_right _ h)
  have hc : Cond.codeWith y bytes maxL ret hh ∈ ws := by rw [hw]; exact List.mem_cons_self
  refine ⟨⟨hrc, hrs, hR.1, hR.2, pay_in ht hG, hc⟩, ht _ (hG _ hc).1, ok _ (by simp [va_wsS]), ⟨hd.1, hd.2.1⟩, fun sig h => ?_, ok _ (by simp [va_wsS]), ok _ (by simp [va_wsS])⟩
  have h2 := hd.2.2
  rw [h] at h2
  exact (Option.some.inj h2).symm
theorem vx_callSW (X : Stand p l e R s m args below meth c T locs cells slots) (hexec : p.tables.exec = Jvm.exec) {own : String} {index : Nat} {y : MethodName} {bytes : ByteArray} {maxL : Nat} {ret : Option FieldType} {hh : List (Nat × Nat × Nat × Nat)}
    (hown : s.vm.findClass own = some m.cls) (hlink : (Cond.methodLink own index y).before args s = true) (hstat : (Cond.static y).before args s = true) (hinit : (Cond.initialized y.cls).before args s = true)
    (hcode : (Cond.codeWith y bytes maxL ret hh).before args s = true) (hy : y.cls ≠ "java/lang/invoke/MethodHandle" ∧ y.cls ≠ "java/lang/invoke/VarHandle")
    {W9 : Nat} {Pre : Pt → Array Value → Prop} {Post : Pt → Array Value → Option Value → Pt → Prop} (hK : Back l R p e below s args y 3 W9 Pre Post)
    {g : JFrame} (hg : g.method = m) (hsize : g.locals.size = c.maxLocals) {argsL rest : List Value} (hlen : ∀ sig, parseMethodDescriptor y.desc = some sig → argsL.length = sig.parameters.length)
    (hstack : g.stack = argsL.reverse ++ rest) (hW : 2 * g.monitorRoom + (rest.map fun v => v.category).sum ≤ W9) (hdg : decode c.code g.pc = .ok (.invokestatic index, 3))
    (hpre : ∀ vm₁, s.WarmedH vm₁ → Pre ⟨T.setVm vm₁, locs, cells, slots⟩ argsL.toArray) :
    ∃ (v : Option Value) (vm₁ : Vm) (B : Pt), s.WarmedH vm₁ ∧ Stand p l e R s m args below meth c B.U B.locs B.cells B.slots ∧ Post ⟨T.setVm vm₁, locs, cells, slots⟩ argsL.toArray v B ∧
      ∀ target, Steps p.tables e below (B.U.setTop { g with pc := g.pc + 3, stack := v.toList ++ rest }) target → Steps p.tables e below (T.setTop g) target := by
  obtain ⟨mk, methM, cM, hnamed, hmethM, -, -, -, -, -, -, hsigM⟩ := Cond.codeWith_spec hcode
  have hstatic : methM.isStatic = true := Cond.static_spec hnamed hmethM hstat
  obtain ⟨kP, hkP, -⟩ := className_of_methodNamed hnamed
  have hinitP : kP.init = .initialized := Cond.initialized_spec (findClass_of_methodNamed hnamed) hkP hinit
  obtain ⟨vm₁, X₁, hstep₁⟩ := X.invokestatic hexec hown hlink hnamed hmethM hstatic hkP hinitP hy (g := g) hg (argsL := argsL) (rest := rest) (hlen _ hsigM) hstack hdg
  obtain ⟨v, B, X', hpost, hsteps⟩ := hK m meth c ⟨T.setVm vm₁, locs, cells, slots⟩ { g with stack := rest } (.invokestatic index) mk argsL.toArray X₁ hg hsize hdg hW (X₁.named hnamed) (hpre vm₁ X₁.warmed)
  exact ⟨v, vm₁, B, X₁.warmed, X', hpost, fun target h => hstep₁ _ fun acts => by rw [doInvoke_state]; exact hsteps.trans h⟩
theorem vx_runSW {y : MethodName} {bytes cc : ByteArray} {maxL nL mc ms n index : Nat} {ret : Option FieldType} {hh : List (Nat × Nat × Nat × Nat)} {ws : List Cond} {rm : Room} {Pc : Array Value → State → Prop} {Qc : Array Value → State → Outcome → State → Prop} {free : Addr → Prop} {Ts : List Cond} {own : String} {As rest : List Value} {g : JFrame}
    (S : CallFix p m c cc nL s args Ts own) (hM : Met l y ws rm Pc Qc mc ms free) (cw : vx_CSW R s args own index y bytes maxL ret hh ws rm mc ms n) (hp : PreS s H Pc As)
    (hg : g.method = m) (hn : As.length = n) (hsize : g.locals.size = nL) (hstack : g.stack = As.reverse ++ rest) (hW : 2 * g.monitorRoom + (rest.map fun v => v.category).sum ≤ 8) (hdg : decode cc g.pc = .ok (.invokestatic index, 3)) (hf : cells + mc ≤ R.cells ∧ slots + ms ≤ R.slots) :
    va_Run p l e R s m args below meth c H locs cells slots mc ms g rest (Qc As.toArray) (free) := by
  obtain ⟨⟨hrc, hrs, hfr, hlo, hws, hcw⟩, hcode, hini, hy, hlen, hl, hstt⟩ := cw
  have hK : Back l R p e below s args y 3 8 (PreOf R mc ms Pc) (PostOf Qc mc ms free) := va_backW (hh := hh) (bytes := bytes) (maxL := maxL) (ret := ret) hM hp.1 hrc hrs hfr hlo hws hcw (fun a' U hW => word_at hW (Or.inl (by first | rfl | simp [Cond.onTables, Cond.keeps, Cond.steady])) hini)
  obtain ⟨hx, hb, hml, ho, -⟩ := S
  intro T hT X
  obtain ⟨v, vm₁, ⟨U', l2, c2, s2⟩, hW₁, X', ⟨g', mk, t, L, e1, e2, hq, h1, hL, h2, h3⟩, st⟩ := vx_callSW X hx (hh := hh) (bytes := bytes) (maxL := maxL) (ret := ret) ho hl hstt hini hcode hy hK hg (hsize.trans hml.symm) (argsL := As) (rest := rest) (fun sig h => hn.trans (hlen sig h)) hstack hW (by rw [hb]; exact hdg)
    (fun vm₁ hW₁ => ⟨hf.1, hf.2, hp.2 (T.setVm vm₁) hT hW₁⟩)
  dsimp only [Pt.U, Pt.locs, Pt.cells, Pt.slots] at X' e1 e2 h1 h2 h3 st
  subst h1; subst h2; subst h3
  exact ⟨v, (T.setVm vm₁).calling g' mk As.toArray, t, U', L, hT, X', hL, e1, e2, hq, st⟩
/-- not caught here, past rows that name other classes: it goes on to the caller -/
theorem vx_outP {p : Program} {l : Launch} {e : Env} {R : Room} {s : State} {m : MethodId} {args : Array Value} {below : List Frame} {meth : Method} {c : Code} {H : Heap} {locs : List Loc} {cells slots : Nat} {free : Addr → Prop} {ls : Array Slot} {rest : List Value} {Qc : Array Value → State → Outcome → State → Prop} {XC : String → State → State → Prop}
    {pc : Nat} {own E : String} {ce : Cell} {q : Addr} {mc ms : Nat} (hown : s.vm.findClass own = some m.cls) (hlocks : meth.locks = false)
    (hpass : ∀ z ∈ c.exceptionTable.toList, covers z pc = false ∨ (z.catchType ≠ 0 ∧ ∃ nm : String, (Cond.classLink own z.catchType nm).before args s = true ∧ va_Nc E nm s)) (hcell : H[q]? = some ce) (hv : ce.vm = .none) (hcl : s.vm.findClass E = some ce.cls)
    (hx : ∀ t : State, t.heap = H → s.vm.Alike t.vm → XC E s t) (hf : ∀ z ∈ locs, free z.base) (hc : cells ≤ mc) (hs : slots ≤ ms) :
    vx_W p l e R s m args below meth c H locs cells slots (vx_MQ below Qc XC args s mc ms free) (F0 m pc ls rest) q := by
  intro T hT X
  have hpl : e.platform.magicAccessors = ({} : Platform).magicAccessors := by rw [X.admits.platform]
  obtain ⟨vm', hW', X', st⟩ := Jvm.Stand.outThrough X hlocks q (g := F0 m pc ls rest) rfl rfl rfl (cell := ce) (by rw [hT]; exact hcell) (by rw [hv]; rfl)
    (by obtain ⟨k9, h9, -⟩ := Vm.findClass_spec hcl; exact ⟨k9, h9⟩) (fun z hz => by
      rcases hpass z hz with h | ⟨hz0, nm, hl1, hn1⟩
      · exact Or.inl h
      · obtain ⟨c6, hc6, hcl6⟩ := Cond.classLink_spec hown hl1 e.platform hpl
        obtain ⟨a8, b8, h1, h2, h3⟩ := hn1
        cases Option.some.inj (h1.symm.trans hcl)
        cases Option.some.inj (h2.symm.trans hc6)
        exact Or.inr ⟨hz0, _, hcl6, h3⟩)
  obtain ⟨g₀, hfr⟩ := X'.frames_eq
  have hcell9 : ((T.setVm vm').setFrames (.throwing q :: below)).heap[q]? = some ce := by
    show T.heap[q]? = some ce
    rw [hT]; exact hcell
  have hend : Ended ((T.setVm vm').setFrames (.throwing q :: below)) below (.threw q) := State.frames_setFrames _ (State.cur_lt_of_frames hfr)
  refine ⟨(T.setVm vm').setFrames (.throwing q :: below), ?_, .threw q, X'.here.running, hend, Or.inr ⟨q, rfl, E, ce, locs, hx _ hT (X'.ends _).1.alike, hcell9, hv, hcl, (X'.ends _).1, (X'.ends _).2.mono hc hs, hf⟩⟩
  rw [X.pushThrowing_eq]
  exact st
/-- a thing of a world lies in the heap -/
theorem vx_lt {D : va_G} {cl : List vw_C} {ws : va_W} {H1 : Heap} (h : va_P D cl ws H1) {k : Nat} {q : Nat × va_E} (hk : ws[k]? = some q) : q.1 < H1.size := (h k q hk).lt
end VXS
/-! ===== END ===== -/
/-! ===== BEGIN methods with a table of their own: called by a name, returning or throwing ===== -/
section VXH
/-! vx_backW, vx_callVX, vx_callSX, vx_callVW, vx_runVW, vx_runVX, vx_runSX, vx_ofWH follow the same proofs as their sisters above (Free/Laws.lean, Shelf42/LK1.lean); vx_outP calls Shelf42/NT130.lean (outThrough). -/
section
variable {l : Launch} {R : Room} {p : Program} {e : Env} {below : List Frame} {s : State} {sargs : Array Value} {y : MethodName} {len W9 : Nat}
theorem vx_backW {ws : List Cond} {rm : Room} {Pc : Array Value → State → Prop} {Qc : Array Value → State → Outcome → State → Prop} {XC : String → State → State → Prop} {mc ms : Nat} {free : Addr → Prop} {bytes : ByteArray} {maxL : Nat} {ret : Option FieldType} {hh : List (Nat × Nat × Nat × Nat)}
    (hM : vx_Met l y ws rm Pc Qc XC mc ms free) (hblind : FrameBlind Pc) (hrc : rm.cells = mc) (hrs : rm.slots = ms)
    (hframes : rm.frames + 1 ≤ R.frames) (hlocals : W9 + (maxL + 11) + rm.locals ≤ R.locals)
    (hws : ∀ w ∈ ws, ∀ a' U, s.WarmedH U.vm → w.before a' U = true) (hcode : Cond.codeWith y bytes maxL ret hh ∈ ws) (hinit : ∀ a' U, s.WarmedH U.vm → (Cond.initialized y.cls).before a' U = true) :
    vx_Back l R p e below s sargs y len W9 (PreOf R mc ms Pc) (PostOf Qc mc ms free) (vx_Post XC mc ms free) := by
  intro m meth c A g ig mk a X hg hsize hdg hW hn hp
  have h1 : (headSpec ws rm).pre.before a A.U = true := atoms_intro fun w hw => hws w hw _ _ X.warmed
  have h2 : (Cond.codeWith y bytes maxL ret hh).before a A.U = true := hws _ hcode _ _ X.warmed
  have h3 : (Cond.initialized y.cls).before a A.U = true := hinit _ _ X.warmed
  have h4 : A.cells + (headSpec ws rm).room.cells ≤ R.cells := by rw [show (headSpec ws rm).room.cells = mc from hrc]; exact hp.1
  have h5 : A.slots + (headSpec ws rm).room.slots ≤ R.slots := by rw [show (headSpec ws rm).room.slots = ms from hrs]; exact hp.2.1
  have hPc : Pc a (A.U.calling g mk a) := hblind _ _ _ _ hp.2.2
  obtain ⟨U, Ls, c0, s0⟩ := A
  dsimp only [Pt.U, Pt.locs, Pt.cells, Pt.slots] at h1 h2 h3 h4 h5 X hn hPc ⊢
  obtain ⟨m9, methY, cY, hn9, hmY, hcY, -, hlY, -⟩ := Cond.codeWith_spec h2
  cases Option.some.inj (hn9.symm.trans hn)
  obtain ⟨kY, hkY, -⟩ := className_of_methodNamed hn
  have hinitY : kY.init = .initialized := Cond.initialized_spec (findClass_of_methodNamed hn) hkY h3
  have h : At U g.method c below := by rw [hg]; exact X.here
  have hlocals9 : W9 + (maxL + 11) + (headSpec ws rm).room.locals ≤ R.locals := hlocals
  have happ : (headSpec ws rm).appliesLoose y e.platform (U.calling g mk a) = true :=
    Spec.appliesLoose_calling (g := g) h hdg hn hkY hinitY
      (X.room_calling (g := g) (R' := (headSpec ws rm).room) hsize hmY hcY hframes (by rw [hlY]; omega) h4 h5) h1
  obtain ⟨mid, hmid⟩ := h.above
  have hfr : (U.setTop g).frames = (.java g :: mid) ++ below := by rw [State.frames_setTop' g h.top, hmid]; rfl
  obtain ⟨o, s₂, hsteps, -, hend, hq⟩ := Steps.callFree hM p X.admits X.cas X.clock (acts := []) hfr happ hPc trivial
  have hq' : vx_Q Qc XC mc ms free a (U.calling g mk a) o s₂ := hq
  rw [State.frames_setTop' g h.top] at hend
  obtain ⟨g₀, hg0⟩ := Option.isSome_iff_exists.mp h.top
  obtain ⟨r, hr⟩ := State.topJava?_eq_some.mp hg0
  have hr' : (({ U with heap := s₂.heap, slotsUsed := s₂.slotsUsed } : State).setVm s₂.vm).frames = .java g₀ :: r := hr
  rcases hq' with ⟨hqc, L, hfe, hL⟩ | ⟨q, rfl, E, ce, L, hx, hce, hcv, hcl, hW₂, hsm, hL⟩
  · obtain ⟨⟨v, rfl⟩, hW₂, e2, q2, q3, q4, q5, q6⟩ := id hfe
    have e3 : s₂ = ({ (U.calling g mk a).setFrames s₂.frames with heap := s₂.heap, slotsUsed := s₂.slotsUsed } : State).setVm s₂.vm := by
      have : s₂ = ({ s₂ with vm := (U.calling g mk a).vm } : State).setVm s₂.vm := rfl
      rw [e2] at this
      exact this
    obtain ⟨c₂, i₂, len₂, hc₂, hd₂, hf₂⟩ := hend
    have hW' : U.WarmedH s₂.vm := hW₂
    have hcc : c₂ = c := by
      have h1 : s₂.code? g.method = U.code? g.method := by
        rw [State.code?_eq, State.code?_eq, hW'.alike.method?]
      exact Option.some.inj (hc₂.symm.trans (h1.trans h.code))
    subst hcc
    have hlen : len₂ = len := by rw [hdg] at hd₂; cases hd₂; rfl
    subst hlen
    have hs₂ : s₂ = (({ U with heap := s₂.heap, slotsUsed := s₂.slotsUsed } : State).setVm s₂.vm).setTop { g with pc := g.pc + len₂, stack := v.toList ++ g.stack } := by
      refine e3.trans ?_
      rw [hf₂, State.calling_eq h.top, State.setFrames_setFrames, State.setTop_of_frames _ hr', hr]
      rfl
    have hsame : U.sameButNew ({ U with heap := s₂.heap, slotsUsed := s₂.slotsUsed } : State) L mc ms := by
      refine ⟨?_, q2, q3, q4, q5, q6⟩
      obtain ⟨t, ht, -⟩ := State.frames_cons hr
      show ({ U with heap := s₂.heap, slotsUsed := s₂.slotsUsed } : State) = { U.setFrames U.frames with heap := s₂.heap, slotsUsed := s₂.slotsUsed }
      rw [State.setFrames_self ht]
    subst hg
    refine Or.inl ⟨v, ⟨(({ U with heap := s₂.heap, slotsUsed := s₂.slotsUsed } : State).setVm s₂.vm), Ls ++ L, c0 + mc, s0 + ms⟩,
      ⟨X.admits, X.cas, X.clock, X.frames, X.room, X.hears, X.method, X.code, (X.here.setHeapUsed s₂.heap s₂.slotsUsed).setVm hW'.alike, X.tail, State.WarmedH.trans X.warmed hW', X.limits, X.bytes, X.same.trans (hsame.setVm s.vm)⟩,
      ⟨g, mk, s₂, L, rfl, rfl, hqc, rfl, hL, rfl, rfl⟩, ?_⟩
    show Steps p.tables e below _ ((({ U with heap := s₂.heap, slotsUsed := s₂.slotsUsed } : State).setVm s₂.vm).setTop { g with pc := g.pc + len₂, stack := v.toList ++ g.stack })
    rw [← hs₂]
    exact hsteps
  · obtain ⟨e2, q2, q3, q4, q5, q6⟩ := id hsm
    have e3 : s₂ = ({ (U.calling g mk a).setFrames s₂.frames with heap := s₂.heap, slotsUsed := s₂.slotsUsed } : State).setVm s₂.vm := by
      have : s₂ = ({ s₂ with vm := (U.calling g mk a).vm } : State).setVm s₂.vm := rfl
      rw [e2] at this
      exact this
    have hf₂ : s₂.frames = .throwing q :: .java g :: U.frames.tail := hend
    have hW' : U.WarmedH s₂.vm := hW₂
    have hs₂ : s₂ = ((({ U with heap := s₂.heap, slotsUsed := s₂.slotsUsed } : State).setVm s₂.vm).setTop g).pushFrame (.throwing q) := by
      refine e3.trans ?_
      rw [hf₂, State.calling_eq h.top, State.setFrames_setFrames, State.pushFrame, State.frames_setTop _ hr', State.setTop_of_frames _ hr', State.setFrames_setFrames, hr]
      rfl
    have hsame : U.sameButNew ({ U with heap := s₂.heap, slotsUsed := s₂.slotsUsed } : State) L mc ms := by
      refine ⟨?_, q2, q3, q4, q5, q6⟩
      obtain ⟨t, ht, -⟩ := State.frames_cons hr
      show ({ U with heap := s₂.heap, slotsUsed := s₂.slotsUsed } : State) = { U.setFrames U.frames with heap := s₂.heap, slotsUsed := s₂.slotsUsed }
      rw [State.setFrames_self ht]
    subst hg
    refine Or.inr ⟨q, ⟨(({ U with heap := s₂.heap, slotsUsed := s₂.slotsUsed } : State).setVm s₂.vm), Ls ++ L, c0 + mc, s0 + ms⟩,
      ⟨X.admits, X.cas, X.clock, X.frames, X.room, X.hears, X.method, X.code, (X.here.setHeapUsed s₂.heap s₂.slotsUsed).setVm hW'.alike, X.tail, State.WarmedH.trans X.warmed hW', X.limits, X.bytes, X.same.trans (hsame.setVm s.vm)⟩,
      ⟨g, mk, s₂, L, E, ce, rfl, rfl, hx, hce, hcv, hcl, rfl, hL, rfl, rfl⟩, ?_⟩
    show Steps p.tables e below _ (((({ U with heap := s₂.heap, slotsUsed := s₂.slotsUsed } : State).setVm s₂.vm).setTop g).pushFrame (.throwing q))
    rw [← hs₂]
    exact hsteps
end
variable {p : Program} {l : Launch} {e : Env} {R : Room} {s : State} {m : MethodId} {args : Array Value} {below : List Frame} {meth : Method} {c : Code} {T : State} {H : Heap} {locs : List Loc} {cells slots : Nat}
theorem vx_callVX (X : Stand p l e R s m args below meth c T locs cells slots) (hexec : p.tables.exec = Jvm.exec) {own C : String} {index : Nat} {y : MethodName} {bytes : ByteArray} {maxL : Nat} {ret : Option FieldType} {hh : List (Nat × Nat × Nat × Nat)}
    (hown : s.vm.findClass own = some m.cls) (hlink : (Cond.methodLink own index y).before args s = true) (hinst : (Cond.instanceMethod y).before args s = true) (hsel : (Cond.selects C y y).before args s = true)
    (hcode : (Cond.codeWith y bytes maxL ret hh).before args s = true) (hy : y.cls ≠ "java/lang/invoke/MethodHandle" ∧ y.cls ≠ "java/lang/invoke/VarHandle")
    {W9 : Nat} {Pre : Pt → Array Value → Prop} {Post : Pt → Array Value → Option Value → Pt → Prop} {PostX : Pt → Array Value → Addr → Pt → Prop} (hK : vx_Back l R p e below s args y 3 W9 Pre Post PostX)
    {b : Addr} {cellB : Cell} (hcell : T.heap[b]? = some cellB) (hobj : cellB.vm.isStatics = false) (hcls : s.vm.findClass C = some cellB.cls)
    {g : JFrame} (hg : g.method = m) (hsize : g.locals.size = c.maxLocals) {argsL rest : List Value} (hlen : ∀ sig, parseMethodDescriptor y.desc = some sig → argsL.length = sig.parameters.length)
    (hstack : g.stack = argsL.reverse ++ .ref b :: rest) (hW : 2 * g.monitorRoom + (rest.map fun v => v.category).sum ≤ W9) (hdg : decode c.code g.pc = .ok (.invokevirtual index, 3))
    (hpre : ∀ vm₁, s.WarmedH vm₁ → Pre ⟨T.setVm vm₁, locs, cells, slots⟩ (Value.ref b :: argsL).toArray) :
    (∃ (v : Option Value) (vm₁ : Vm) (B : Pt), s.WarmedH vm₁ ∧ Stand p l e R s m args below meth c B.U B.locs B.cells B.slots ∧ Post ⟨T.setVm vm₁, locs, cells, slots⟩ (Value.ref b :: argsL).toArray v B ∧
      ∀ target, Steps p.tables e below (B.U.setTop { g with pc := g.pc + 3, stack := v.toList ++ rest }) target → Steps p.tables e below (T.setTop g) target) ∨
    (∃ (q : Addr) (vm₁ : Vm) (B : Pt), s.WarmedH vm₁ ∧ Stand p l e R s m args below meth c B.U B.locs B.cells B.slots ∧ PostX ⟨T.setVm vm₁, locs, cells, slots⟩ (Value.ref b :: argsL).toArray q B ∧
      Steps p.tables e below (T.setTop g) ((B.U.setTop { g with stack := rest }).pushFrame (.throwing q))) := by
  obtain ⟨mk, methM, hnamed, hmethM, hstM, habM⟩ := Cond.instanceMethod_spec hinst
  obtain ⟨m8, methM', cM, hn8, hmethM', -, -, -, -, -, -, hsigM⟩ := Cond.codeWith_spec hcode
  cases Option.some.inj (hn8.symm.trans hnamed)
  cases hmethM.symm.trans hmethM'
  obtain ⟨c2, r2, m2, q1, q2, q3, q4, kP, hkP, hkPi⟩ := Cond.selects_spec hsel
  cases hcls.symm.trans q1
  cases (State.methodFound?_of_named hnamed hy).symm.trans q2
  cases hnamed.symm.trans q3
  have hselP : selectMethod e.platform s.vm cellB.cls mk = .method mk := by rw [Launch.admits_selectMethod X.admits]; exact q4
  obtain ⟨vm₁, X₁, hstep₁⟩ := X.invokevirtual hexec hown hlink hnamed hmethM hstM hkP hkPi hy (a := b) (cell := cellB) hcell
    (fun z h => by rw [h] at hobj; cases hobj) hselP hmethM habM hkP hkPi (g := g) hg (argsL := argsL) (rest := rest) (hlen _ hsigM) hstack hdg
  rcases hK m meth c ⟨T.setVm vm₁, locs, cells, slots⟩ { g with stack := rest } (.invokevirtual index) mk (Value.ref b :: argsL).toArray X₁ hg hsize hdg hW (X₁.named hnamed) (hpre vm₁ X₁.warmed) with ⟨v, B, X', hpost, hsteps⟩ | ⟨q, B, X', hpost, hsteps⟩
  · exact Or.inl ⟨v, vm₁, B, X₁.warmed, X', hpost, fun target h => hstep₁ _ fun acts => by rw [doInvoke_state]; exact hsteps.trans h⟩
  · exact Or.inr ⟨q, vm₁, B, X₁.warmed, X', hpost, hstep₁ _ fun acts => by rw [doInvoke_state]; exact hsteps⟩
theorem vx_callSX (X : Stand p l e R s m args below meth c T locs cells slots) (hexec : p.tables.exec = Jvm.exec) {own : String} {index : Nat} {y : MethodName} {bytes : ByteArray} {maxL : Nat} {ret : Option FieldType} {hh : List (Nat × Nat × Nat × Nat)}
    (hown : s.vm.findClass own = some m.cls) (hlink : (Cond.methodLink own index y).before args s = true) (hstat : (Cond.static y).before args s = true) (hinit : (Cond.initialized y.cls).before args s = true)
    (hcode : (Cond.codeWith y bytes maxL ret hh).before args s = true) (hy : y.cls ≠ "java/lang/invoke/MethodHandle" ∧ y.cls ≠ "java/lang/invoke/VarHandle")
    {W9 : Nat} {Pre : Pt → Array Value → Prop} {Post : Pt → Array Value → Option Value → Pt → Prop} {PostX : Pt → Array Value → Addr → Pt → Prop} (hK : vx_Back l R p e below s args y 3 W9 Pre Post PostX)
    {g : JFrame} (hg : g.method = m) (hsize : g.locals.size = c.maxLocals) {argsL rest : List Value} (hlen : ∀ sig, parseMethodDescriptor y.desc = some sig → argsL.length = sig.parameters.length)
    (hstack : g.stack = argsL.reverse ++ rest) (hW : 2 * g.monitorRoom + (rest.map fun v => v.category).sum ≤ W9) (hdg : decode c.code g.pc = .ok (.invokestatic index, 3))
    (hpre : ∀ vm₁, s.WarmedH vm₁ → Pre ⟨T.setVm vm₁, locs, cells, slots⟩ argsL.toArray) :
    (∃ (v : Option Value) (vm₁ : Vm) (B : Pt), s.WarmedH vm₁ ∧ Stand p l e R s m args below meth c B.U B.locs B.cells B.slots ∧ Post ⟨T.setVm vm₁, locs, cells, slots⟩ argsL.toArray v B ∧
      ∀ target, Steps p.tables e below (B.U.setTop { g with pc := g.pc + 3, stack := v.toList ++ rest }) target → Steps p.tables e below (T.setTop g) target) ∨
    (∃ (q : Addr) (vm₁ : Vm) (B : Pt), s.WarmedH vm₁ ∧ Stand p l e R s m args below meth c B.U B.locs B.cells B.slots ∧ PostX ⟨T.setVm vm₁, locs, cells, slots⟩ argsL.toArray q B ∧
      Steps p.tables e below (T.setTop g) ((B.U.setTop { g with stack := rest }).pushFrame (.throwing q))) := by
  obtain ⟨mk, methM, cM, hnamed, hmethM, -, -, -, -, -, -, hsigM⟩ := Cond.codeWith_spec hcode
  have hstatic : methM.isStatic = true := Cond.static_spec hnamed hmethM hstat
  obtain ⟨kP, hkP, -⟩ := className_of_methodNamed hnamed
  have hinitP : kP.init = .initialized := Cond.initialized_spec (findClass_of_methodNamed hnamed) hkP hinit
  obtain ⟨vm₁, X₁, hstep₁⟩ := X.invokestatic hexec hown hlink hnamed hmethM hstatic hkP hinitP hy (g := g) hg (argsL := argsL) (rest := rest) (hlen _ hsigM) hstack hdg
  rcases hK m meth c ⟨T.setVm vm₁, locs, cells, slots⟩ { g with stack := rest } (.invokestatic index) mk argsL.toArray X₁ hg hsize hdg hW (X₁.named hnamed) (hpre vm₁ X₁.warmed) with ⟨v, B, X', hpost, hsteps⟩ | ⟨q, B, X', hpost, hsteps⟩
  · exact Or.inl ⟨v, vm₁, B, X₁.warmed, X', hpost, fun target h => hstep₁ _ fun acts => by rw [doInvoke_state]; exact hsteps.trans h⟩
  · exact Or.inr ⟨q, vm₁, B, X₁.warmed, X', hpost, hstep₁ _ fun acts => by rw [doInvoke_state]; exact hsteps⟩
theorem vx_callVW (X : Stand p l e R s m args below meth c T locs cells slots) (hexec : p.tables.exec = Jvm.exec) {own C : String} {index : Nat} {y : MethodName} {bytes : ByteArray} {maxL : Nat} {ret : Option FieldType} {hh : List (Nat × Nat × Nat × Nat)}
    (hown : s.vm.findClass own = some m.cls) (hlink : (Cond.methodLink own index y).before args s = true) (hinst : (Cond.instanceMethod y).before args s = true) (hsel : (Cond.selects C y y).before args s = true)
    (hcode : (Cond.codeWith y bytes maxL ret hh).before args s = true) (hy : y.cls ≠ "java/lang/invoke/MethodHandle" ∧ y.cls ≠ "java/lang/invoke/VarHandle")
    {W9 : Nat} {Pre : Pt → Array Value → Prop} {Post : Pt → Array Value → Option Value → Pt → Prop} (hK : Back l R p e below s args y 3 W9 Pre Post)
    {b : Addr} {cellB : Cell} (hcell : T.heap[b]? = some cellB) (hobj : cellB.vm.isStatics = false) (hcls : s.vm.findClass C = some cellB.cls)
    {g : JFrame} (hg : g.method = m) (hsize : g.locals.size = c.maxLocals) {argsL rest : List Value} (hlen : ∀ sig, parseMethodDescriptor y.desc = some sig → argsL.length = sig.parameters.length)
    (hstack : g.stack = argsL.reverse ++ .ref b :: rest) (hW : 2 * g.monitorRoom + (rest.map fun v => v.category).sum ≤ W9) (hdg : decode c.code g.pc = .ok (.invokevirtual index, 3))
    (hpre : ∀ vm₁, s.WarmedH vm₁ → Pre ⟨T.setVm vm₁, locs, cells, slots⟩ (Value.ref b :: argsL).toArray) :
    ∃ (v : Option Value) (vm₁ : Vm) (B : Pt), s.WarmedH vm₁ ∧ Stand p l e R s m args below meth c B.U B.locs B.cells B.slots ∧ Post ⟨T.setVm vm₁, locs, cells, slots⟩ (Value.ref b :: argsL).toArray v B ∧
      ∀ target, Steps p.tables e below (B.U.setTop { g with pc := g.pc + 3, stack := v.toList ++ rest }) target → Steps p.tables e below (T.setTop g) target := by
  obtain ⟨mk, methM, hnamed, hmethM, hstM, habM⟩ := Cond.instanceMethod_spec hinst
  obtain ⟨m8, methM', cM, hn8, hmethM', -, -, -, -, -, -, hsigM⟩ := Cond.codeWith_spec hcode
  cases Option.some.inj (hn8.symm.trans hnamed)
  cases hmethM.symm.trans hmethM'
  obtain ⟨c2, r2, m2, q1, q2, q3, q4, kP, hkP, hkPi⟩ := Cond.selects_spec hsel
  cases hcls.symm.trans q1
  cases (State.methodFound?_of_named hnamed hy).symm.trans q2
  cases hnamed.symm.trans q3
  have hselP : selectMethod e.platform s.vm cellB.cls mk = .method mk := by rw [Launch.admits_selectMethod X.admits]; exact q4
  obtain ⟨vm₁, X₁, hstep₁⟩ := X.invokevirtual hexec hown hlink hnamed hmethM hstM hkP hkPi hy (a := b) (cell := cellB) hcell
    (fun z h => by rw [h] at hobj; cases hobj) hselP hmethM habM hkP hkPi (g := g) hg (argsL := argsL) (rest := rest) (hlen _ hsigM) hstack hdg
  obtain ⟨v, B, X', hpost, hsteps⟩ := hK m meth c ⟨T.setVm vm₁, locs, cells, slots⟩ { g with stack := rest } (.invokevirtual index) mk (Value.ref b :: argsL).toArray X₁ hg hsize hdg hW (X₁.named hnamed) (hpre vm₁ X₁.warmed)
  exact ⟨v, vm₁, B, X₁.warmed, X', hpost, fun target h => hstep₁ _ fun acts => by rw [doInvoke_state]; exact hsteps.trans h⟩
abbrev vx_CVW (R : Room) (s : State) (args : Array Value) (own C : String) (index : Nat) (y : MethodName) (bytes : ByteArray) (maxL : Nat) (ret : Option FieldType) (hh : List (Nat × Nat × Nat × Nat)) (ws : List Cond) (rm : Room) (mc ms n : Nat) : Prop :=
  (rm.cells = mc ∧ rm.slots = ms ∧ rm.frames + 1 ≤ R.frames ∧ 8 + (maxL + 11) + rm.locals ≤ R.locals ∧ (∀ w ∈ ws, ∀ (a' : Array Value) (U : State), s.WarmedH U.vm → w.before a' U = true) ∧ Cond.codeWith y bytes maxL ret hh ∈ ws) ∧
  (Cond.codeWith y bytes maxL ret hh).before args s = true ∧ (Cond.initialized y.cls).before args s = true ∧ (y.cls ≠ "java/lang/invoke/MethodHandle" ∧ y.cls ≠ "java/lang/invoke/VarHandle") ∧
  (∀ sig, parseMethodDescriptor y.desc = some sig → n = sig.parameters.length) ∧ (Cond.methodLink own index y).before args s = true ∧ (Cond.instanceMethod y).before args s = true ∧ (Cond.selects C y y).before args s = true
theorem vx_cwVW {own C : String} {index maxL mc ms : Nat} {y : MethodName} {bytes : ByteArray} {ret : Option FieldType} {hh : List (Nat × Nat × Nat × Nat)} {Ts ws ws' : List Cond} {rm : Room} (n : Nat) (ht : ∀ w ∈ Ts, w.before args s = true) (hT : GoodIn Ts (wsV own index C y ws)) (hw : ws = Cond.codeWith y bytes maxL ret hh :: ws') (hrc : rm.cells = mc) (hrs : rm.slots = ms)
    (hd : y.cls = C ∧ y.cls ≠ "java/lang/invoke/MethodHandle" ∧ y.cls ≠ "java/lang/invoke/VarHandle" ∧ (parseMethodDescriptor y.desc).map (fun d => d.parameters.length) = some n) (hR : rm.frames + 1 ≤ R.frames ∧ 8 + (maxL + 11) + rm.locals ≤ R.locals) :
    vx_CVW R s args own C index y bytes maxL ret hh ws rm mc ms n := by
  obtain ⟨hC, hd⟩ := hd
  subst hC
  have ok : ∀ w ∈ wsV own index y.cls y ws, w.before args s = true := fun w h => ht w (hT w h).1
  have hG : GoodIn Ts ws := fun w h => hT w (by unfold wsV; exact List.mem_append_right _ h)
  have hc : Cond.codeWith y bytes maxL ret hh ∈ ws := by rw [hw]; exact List.mem_cons_self
  refine ⟨⟨hrc, hrs, hR.1, hR.2, pay_in ht hG, hc⟩, ht _ (hG _ hc).1, ok _ (by simp [wsV]), ⟨hd.1, hd.2.1⟩, fun sig h => ?_, ok _ (by simp [wsV]), ok _ (by simp [wsV]), ok _ (by simp [wsV])⟩
  have h2 := hd.2.2
  rw [h] at h2
  exact (Option.some.inj h2).symm
theorem vx_runVW {y : MethodName} {bytes cc : ByteArray} {maxL nL mc ms n index : Nat} {ret : Option FieldType} {hh : List (Nat × Nat × Nat × Nat)} {ws : List Cond} {rm : Room} {Pc : Array Value → State → Prop} {Qc : Array Value → State → Outcome → State → Prop} {free : Addr → Prop} {Ts : List Cond} {own C : String} {b : Addr} {As rest : List Value} {g : JFrame}
    (S : CallFix p m c cc nL s args Ts own) (hM : Met l y ws rm Pc Qc mc ms free) (cw : vx_CVW R s args own C index y bytes maxL ret hh ws rm mc ms n) (hp : PreV s H C b Pc As)
    (hg : g.method = m) (hn : As.length = n) (hsize : g.locals.size = nL) (hstack : g.stack = As.reverse ++ .ref b :: rest) (hW : 2 * g.monitorRoom + (rest.map fun v => v.category).sum ≤ 8) (hdg : decode cc g.pc = .ok (.invokevirtual index, 3)) (hf : cells + mc ≤ R.cells ∧ slots + ms ≤ R.slots) :
    va_Run p l e R s m args below meth c H locs cells slots mc ms g rest (Qc (Value.ref b :: As).toArray) free := by
  obtain ⟨⟨hrc, hrs, hfr, hlo, hws, hcw⟩, hcode, hini, hy, hlen, hl, hin, hse⟩ := cw
  have hK : Back l R p e below s args y 3 8 (PreOf R mc ms Pc) (PostOf Qc mc ms free) := va_backW (hh := hh) (bytes := bytes) (maxL := maxL) (ret := ret) hM hp.1 hrc hrs hfr hlo hws hcw (fun a' U hW => word_at hW (Or.inl (by first | rfl | simp [Cond.onTables, Cond.keeps, Cond.steady])) hini)
  obtain ⟨hx, hb, hml, ho, -⟩ := S
  obtain ⟨-, ⟨cellB, hcB, hoB, hclB⟩, hPc⟩ := hp
  intro T hT X
  obtain ⟨v, vm₁, ⟨U', l2, c2, s2⟩, hW₁, X', ⟨g', mk, t, L, e1, e2, hq, h1, hL, h2, h3⟩, st⟩ := vx_callVW X hx (C := C) (hh := hh) (bytes := bytes) (maxL := maxL) (ret := ret) ho hl hin hse hcode hy hK (by rw [hT]; exact hcB) hoB hclB hg (hsize.trans hml.symm) (argsL := As) (rest := rest) (fun sig h => hn.trans (hlen sig h)) hstack hW (by rw [hb]; exact hdg)
    (fun vm₁ hW₁ => ⟨hf.1, hf.2, hPc (T.setVm vm₁) hT hW₁⟩)
  dsimp only [Pt.U, Pt.locs, Pt.cells, Pt.slots] at X' e1 e2 h1 h2 h3 st
  subst h1; subst h2; subst h3
  exact ⟨v, (T.setVm vm₁).calling g' mk (Value.ref b :: As).toArray, t, U', L, hT, X', hL, e1, e2, hq, st⟩
section
variable {y : MethodName} {bytes cc : ByteArray} {maxL nL mc ms n index : Nat} {ret : Option FieldType} {ws : List Cond} {rm : Room} {Pc : Array Value → State → Prop} {Qc : Array Value → State → Outcome → State → Prop} {XC : String → State → State → Prop} {free : Addr → Prop} {Ts : List Cond} {own C : String} {b : Addr} {As rest : List Value} {g : JFrame}
theorem vx_runVX {hh : List (Nat × Nat × Nat × Nat)} (S : CallFix p m c cc nL s args Ts own) (hM : vx_Met l y ws rm Pc Qc XC mc ms free) (cw : vx_CVW R s args own C index y bytes maxL ret hh ws rm mc ms n) (hp : PreV s H C b Pc As)
    (hg : g.method = m) (hn : As.length = n) (hsize : g.locals.size = nL) (hstack : g.stack = As.reverse ++ .ref b :: rest) (hW : 2 * g.monitorRoom + (rest.map fun v => v.category).sum ≤ 8) (hdg : decode cc g.pc = .ok (.invokevirtual index, 3)) (hf : cells + mc ≤ R.cells ∧ slots + ms ≤ R.slots) :
    vx_Run p l e R s m args below meth c H locs cells slots mc ms g rest (Qc (Value.ref b :: As).toArray) XC free := by
  obtain ⟨⟨hrc, hrs, hfr, hlo, hws, hcw⟩, hcode, hini, hy, hlen, hl, hin, hse⟩ := cw
  have hK : vx_Back l R p e below s args y 3 8 (PreOf R mc ms Pc) (PostOf Qc mc ms free) (vx_Post XC mc ms free) := vx_backW (hh := hh) (bytes := bytes) (maxL := maxL) (ret := ret) hM hp.1 hrc hrs hfr hlo hws hcw (fun a' U hW => word_at hW (Or.inl (by first | rfl | simp [Cond.onTables, Cond.keeps, Cond.steady])) hini)
  obtain ⟨hx, hb, hml, ho, -⟩ := S
  obtain ⟨-, ⟨cellB, hcB, hoB, hclB⟩, hPc⟩ := hp
  intro T hT X
  rcases vx_callVX X hx (C := C) (hh := hh) (bytes := bytes) (maxL := maxL) (ret := ret) ho hl hin hse hcode hy hK (by rw [hT]; exact hcB) hoB hclB hg (hsize.trans hml.symm) (argsL := As) (rest := rest) (fun sig h => hn.trans (hlen sig h)) hstack hW (by rw [hb]; exact hdg)
    (fun vm₁ hW₁ => ⟨hf.1, hf.2, hPc (T.setVm vm₁) hT hW₁⟩) with ⟨v, vm₁, ⟨U', l2, c2, s2⟩, hW₁, X', ⟨g', mk, t, L, e1, e2, hq, h1, hL, h2, h3⟩, st⟩ | ⟨q, vm₁, ⟨U', l2, c2, s2⟩, hW₁, X', ⟨g', mk, t, L, E, ce, e1, e2, hq, hce, hcv, hcl, h1, hL, h2, h3⟩, st⟩
  · dsimp only [Pt.U, Pt.locs, Pt.cells, Pt.slots] at X' e1 e2 h1 h2 h3 st
    subst h1; subst h2; subst h3
    exact Or.inl ⟨v, (T.setVm vm₁).calling g' mk (Value.ref b :: As).toArray, t, U', L, hT, X', hL, e1, e2, hq, st⟩
  · dsimp only [Pt.U, Pt.locs, Pt.cells, Pt.slots] at X' e1 e2 h1 h2 h3 st hcl
    subst h1; subst h2; subst h3
    exact Or.inr ⟨q, (T.setVm vm₁).calling g' mk (Value.ref b :: As).toArray, t, U', L, E, ce, hT, X', hL, e1, e2, hq, hce, hcv, vx_cls hW₁ hcl, st⟩
theorem vx_runSX {hh : List (Nat × Nat × Nat × Nat)} (S : CallFix p m c cc nL s args Ts own) (hM : vx_Met l y ws rm Pc Qc XC mc ms free) (cw : vx_CSW R s args own index y bytes maxL ret hh ws rm mc ms n) (hp : PreS s H Pc As)
    (hg : g.method = m) (hn : As.length = n) (hsize : g.locals.size = nL) (hstack : g.stack = As.reverse ++ rest) (hW : 2 * g.monitorRoom + (rest.map fun v => v.category).sum ≤ 8) (hdg : decode cc g.pc = .ok (.invokestatic index, 3)) (hf : cells + mc ≤ R.cells ∧ slots + ms ≤ R.slots) :
    vx_Run p l e R s m args below meth c H locs cells slots mc ms g rest (Qc As.toArray) XC free := by
  obtain ⟨⟨hrc, hrs, hfr, hlo, hws, hcw⟩, hcode, hini, hy, hlen, hl, hstt⟩ := cw
  have hK : vx_Back l R p e below s args y 3 8 (PreOf R mc ms Pc) (PostOf Qc mc ms free) (vx_Post XC mc ms free) := vx_backW (hh := hh) (bytes := bytes) (maxL := maxL) (ret := ret) hM hp.1 hrc hrs hfr hlo hws hcw (fun a' U hW => word_at hW (Or.inl (by first | rfl | simp [Cond.onTables, Cond.keeps, Cond.steady])) hini)
  obtain ⟨hx, hb, hml, ho, -⟩ := S
  intro T hT X
  rcases vx_callSX X hx (hh := hh) (bytes := bytes) (maxL := maxL) (ret := ret) ho hl hstt hini hcode hy hK hg (hsize.trans hml.symm) (argsL := As) (rest := rest) (fun sig h => hn.trans (hlen sig h)) hstack hW (by rw [hb]; exact hdg)
    (fun vm₁ hW₁ => ⟨hf.1, hf.2, hp.2 (T.setVm vm₁) hT hW₁⟩) with ⟨v, vm₁, ⟨U', l2, c2, s2⟩, hW₁, X', ⟨g', mk, t, L, e1, e2, hq, h1, hL, h2, h3⟩, st⟩ | ⟨q, vm₁, ⟨U', l2, c2, s2⟩, hW₁, X', ⟨g', mk, t, L, E, ce, e1, e2, hq, hce, hcv, hcl, h1, hL, h2, h3⟩, st⟩
  · dsimp only [Pt.U, Pt.locs, Pt.cells, Pt.slots] at X' e1 e2 h1 h2 h3 st
    subst h1; subst h2; subst h3
    exact Or.inl ⟨v, (T.setVm vm₁).calling g' mk As.toArray, t, U', L, hT, X', hL, e1, e2, hq, st⟩
  · dsimp only [Pt.U, Pt.locs, Pt.cells, Pt.slots] at X' e1 e2 h1 h2 h3 st hcl
    subst h1; subst h2; subst h3
    exact Or.inr ⟨q, (T.setVm vm₁).calling g' mk As.toArray, t, U', L, E, ce, hT, X', hL, e1, e2, hq, hce, hcv, vx_cls hW₁ hcl, st⟩
end
end VXH
theorem vx_ofWH {l : Launch} {y : MethodName} {ws ws' : List Cond} {rm : Room} {Pc : Array Value → State → Prop} {Qc : Array Value → State → Outcome → State → Prop} {XC : String → State → State → Prop} {mc ms : Nat} {free : Addr → Prop} {cc : ByteArray} {maxL : Nat} {ret : Option FieldType} {hh : List (Nat × Nat × Nat × Nat)}
    (hy : plainName y.cls = true) (hw : ws = Cond.codeWith y cc maxL ret hh :: ws')
    (body : ∀ p e s m args below meth c s₁, BodyLoose p l y (headSpec ws rm) cc maxL ret e s m args below meth c s₁ → c.maxLocals = maxL → Pc args s →
      W p l e (headSpec ws rm).room s m args below meth c s.heap [] 0 0 (vx_MQ below Qc XC args s mc ms free) (entryFrame m args maxL)) : vx_Met l y ws rm Pc Qc XC mc ms free := by
  refine MetFree.of_bodyS (code := cc) (maxLocals := maxL) (ret := ret) hy ?_ ?_
  · intro args s m h hn
    obtain ⟨m9, meth, c, hn9, h1, h2, h3, h4, -, h5, h6, -⟩ := Cond.codeWith_spec (atoms_spec (ws := ws) h _ (by rw [hw]; exact List.mem_cons_self))
    cases hn.symm.trans hn9
    exact ⟨meth, c, h1, h2, h3, h4, h5, h6⟩
  · intro p e s m args below meth c s₁ B hml hP _
    have hh0 : s₁.heap = s.heap := by rw [B.state]; rfl
    obtain ⟨t, a1, o, b1, b2, b3⟩ := body p e s m args below meth c s₁ B hml hP s₁ hh0 (Stand.of_body B)
    exact ⟨t, o, a1, b1, b2, b3⟩
/-! ===== END ===== -/
end
section
def RX0 : String := "StairsInSteps$ByCost"
def TX0 : u_T := fun k => match k with
  | 0 => ("StairsInSteps$ByCost", "rows", "LStairsInSteps$Rows;", true)
  | 1 => ("StairsInSteps$ByCost", "reach", "[J", true)
  | _ => ("StairsInSteps$ByCost", "easiestWays", "J", false)
def tyX0 : Nat → FieldType := fun k => match k with
  | 0 => .object "StairsInSteps$Rows"
  | 1 => .array .long
  | _ => .long
abbrev wsX00 : List Cond := u_ws RX0 TX0 3
theorem nmX0 : ∀ a, a < 3 → ∀ b, b < 3 → a ≠ b → (TX0 a).2.1 ≠ (TX0 b).2.1 := by decide +kernel
theorem tyX0_ok : ∀ k, k < 3 → parseFieldDescriptor (TX0 k).2.2.1 = some (tyX0 k) := by decide +kernel
abbrev cX0_init : ByteArray := prog_2_method_1_code
def yX0_init : MethodName := ⟨RX0, "<init>", "()V"⟩
abbrev cX0_easiest : ByteArray := prog_2_method_2_code
def yX0_easiest : MethodName := ⟨RX0, "easiest", "(LStairsInSteps$Routes;)J"⟩
abbrev cX0_firstAbove : ByteArray := prog_2_method_3_code
def yX0_firstAbove : MethodName := ⟨RX0, "firstAbove", "(LStairsInSteps$Routes;I)J"⟩
abbrev cX0_tally : ByteArray := prog_2_method_4_code
def yX0_tally : MethodName := ⟨RX0, "tally", "(LStairsInSteps$Routes;II)J"⟩
abbrev cX0_keepOnTheWay : ByteArray := prog_2_method_5_code
def yX0_keepOnTheWay : MethodName := ⟨RX0, "keepOnTheWay", "(III)V"⟩
abbrev cX0_findReach : ByteArray := prog_2_method_6_code
def yX0_findReach : MethodName := ⟨RX0, "findReach", "(LStairsInSteps$Routes;)V"⟩
abbrev cX0_addReach : ByteArray := prog_2_method_7_code
def yX0_addReach : MethodName := ⟨RX0, "addReach", "(III)V"⟩
abbrev cX0_isInReach : ByteArray := prog_2_method_8_code
def yX0_isInReach : MethodName := ⟨RX0, "isInReach", "(II)Z"⟩
def RX1 : String := "StairsInSteps$Feast"
def TX1 : u_T := fun k => match k with
  | 0 => ("StairsInSteps$Feast", "goes", "[Z", true)
  | 1 => ("StairsInSteps$Feast", "key", "[J", true)
  | 2 => ("StairsInSteps$Feast", "at", "[I", true)
  | 3 => ("StairsInSteps$Feast", "waited", "[I", true)
  | 4 => ("StairsInSteps$Feast", "on", "[I", true)
  | 5 => ("StairsInSteps$Feast", "waitedFor", "[I", true)
  | 6 => ("StairsInSteps$Feast", "size", "I", false)
  | 7 => ("StairsInSteps$Feast", "going", "I", false)
  | 8 => ("StairsInSteps$Feast", "minutes", "I", false)
  | _ => ("StairsInSteps$Feast", "crowd", "I", false)
def tyX1 : Nat → FieldType := fun k => match k with
  | 0 => .array .boolean
  | 1 => .array .long
  | 2 => .array .int
  | 3 => .array .int
  | 4 => .array .int
  | 5 => .array .int
  | 6 => .int
  | 7 => .int
  | 8 => .int
  | _ => .int
abbrev wsX10 : List Cond := u_ws RX1 TX1 10
theorem nmX1 : ∀ a, a < 10 → ∀ b, b < 10 → a ≠ b → (TX1 a).2.1 ≠ (TX1 b).2.1 := by decide +kernel
theorem tyX1_ok : ∀ k, k < 10 → parseFieldDescriptor (TX1 k).2.2.1 = some (tyX1 k) := by decide +kernel
abbrev cX1_init : ByteArray := prog_3_method_1_code
def yX1_init : MethodName := ⟨RX1, "<init>", "()V"⟩
abbrev cX1_prepare : ByteArray := prog_3_method_2_code
def yX1_prepare : MethodName := ⟨RX1, "prepare", "(I)V"⟩
abbrev cX1_invite : ByteArray := prog_3_method_3_code
def yX1_invite : MethodName := ⟨RX1, "invite", "(IJ)V"⟩
abbrev cX1_run : ByteArray := prog_3_method_4_code
def yX1_run : MethodName := ⟨RX1, "run", "(I)V"⟩
abbrev cX1_passMinute : ByteArray := prog_3_method_5_code
def yX1_passMinute : MethodName := ⟨RX1, "passMinute", "(I)V"⟩
abbrev cX1_goOn : ByteArray := prog_3_method_6_code
def yX1_goOn : MethodName := ⟨RX1, "goOn", "(II)V"⟩
abbrev cX1_longestWaiting : ByteArray := prog_3_method_7_code
def yX1_longestWaiting : MethodName := ⟨RX1, "longestWaiting", "()I"⟩
def RX2 : String := "StairsInSteps$Kept"
def TX2 : u_T := fun k => match k with
  | 0 => ("StairsInSteps$Kept", "states", "[I", true)
  | 1 => ("StairsInSteps$Kept", "asked", "[I", true)
  | 2 => ("StairsInSteps$Kept", "owned", "[I", true)
  | 3 => ("StairsInSteps$Kept", "earnings", "[I", true)
  | 4 => ("StairsInSteps$Kept", "at", "[I", true)
  | 5 => ("StairsInSteps$Kept", "kneesLeft", "[I", true)
  | 6 => ("StairsInSteps$Kept", "purseLeft", "[I", true)
  | 7 => ("StairsInSteps$Kept", "size", "I", false)
  | _ => ("StairsInSteps$Kept", "holds", "Z", false)
def tyX2 : Nat → FieldType := fun k => match k with
  | 0 => .array .int
  | 1 => .array .int
  | 2 => .array .int
  | 3 => .array .int
  | 4 => .array .int
  | 5 => .array .int
  | 6 => .array .int
  | 7 => .int
  | _ => .boolean
abbrev wsX20 : List Cond := u_ws RX2 TX2 9
theorem nmX2 : ∀ a, a < 9 → ∀ b, b < 9 → a ≠ b → (TX2 a).2.1 ≠ (TX2 b).2.1 := by decide +kernel
theorem tyX2_ok : ∀ k, k < 9 → parseFieldDescriptor (TX2 k).2.2.1 = some (tyX2 k) := by decide +kernel
abbrev cX2_init : ByteArray := prog_4_method_1_code
def yX2_init : MethodName := ⟨RX2, "<init>", "()V"⟩
abbrev cX2_putStairs : ByteArray := prog_4_method_2_code
def yX2_putStairs : MethodName := ⟨RX2, "putStairs", "(LStairsInSteps$Stairs;)V"⟩
abbrev cX2_getStairs : ByteArray := prog_4_method_3_code
def yX2_getStairs : MethodName := ⟨RX2, "getStairs", "(LStairsInSteps$Stairs;)V"⟩
abbrev cX2_putPilgrim : ByteArray := prog_4_method_4_code
def yX2_putPilgrim : MethodName := ⟨RX2, "putPilgrim", "(ILStairsInSteps$Pilgrim;)V"⟩
abbrev cX2_getPilgrim : ByteArray := prog_4_method_5_code
def yX2_getPilgrim : MethodName := ⟨RX2, "getPilgrim", "(ILStairsInSteps$Pilgrim;)V"⟩
def RX3 : String := "StairsInSteps$Law"
def TX3 : u_T := fun k => match k with
  | 0 => ("StairsInSteps$Law", "code", "[I", true)
  | 1 => ("StairsInSteps$Law", "draft", "[I", true)
  | 2 => ("StairsInSteps$Law", "stack", "[I", true)
  | 3 => ("StairsInSteps$Law", "size", "I", false)
  | 4 => ("StairsInSteps$Law", "named", "I", false)
  | 5 => ("StairsInSteps$Law", "drafted", "I", false)
  | 6 => ("StairsInSteps$Law", "at", "I", false)
  | 7 => ("StairsInSteps$Law", "limit", "I", false)
  | _ => ("StairsInSteps$Law", "fault", "I", false)
def tyX3 : Nat → FieldType := fun k => match k with
  | 0 => .array .int
  | 1 => .array .int
  | 2 => .array .int
  | 3 => .int
  | 4 => .int
  | 5 => .int
  | 6 => .int
  | 7 => .int
  | _ => .int
abbrev wsX30 : List Cond := u_ws RX3 TX3 9
theorem nmX3 : ∀ a, a < 9 → ∀ b, b < 9 → a ≠ b → (TX3 a).2.1 ≠ (TX3 b).2.1 := by decide +kernel
theorem tyX3_ok : ∀ k, k < 9 → parseFieldDescriptor (TX3 k).2.2.1 = some (tyX3 k) := by decide +kernel
abbrev cX3_init : ByteArray := prog_5_method_1_code
def yX3_init : MethodName := ⟨RX3, "<init>", "()V"⟩
abbrev cX3_isTold : ByteArray := prog_5_method_2_code
def yX3_isTold : MethodName := ⟨RX3, "isTold", "()Z"⟩
abbrev cX3_names : ByteArray := prog_5_method_3_code
def yX3_names : MethodName := ⟨RX3, "names", "(I)Z"⟩
abbrev cX3_read : ByteArray := prog_5_method_4_code
def yX3_read : MethodName := ⟨RX3, "read", "(LStairsInSteps$Text;)I"⟩
abbrev cX3_look : ByteArray := prog_5_method_5_code
def yX3_look : MethodName := ⟨RX3, "look", "(LStairsInSteps$Text;)I"⟩
abbrev cX3_isAhead : ByteArray := prog_5_method_6_code
def yX3_isAhead : MethodName := ⟨RX3, "isAhead", "(LStairsInSteps$Text;CC)Z"⟩
abbrev cX3_emit : ByteArray := prog_5_method_7_code
def yX3_emit : MethodName := ⟨RX3, "emit", "(I)V"⟩
abbrev cX3_readExpression : ByteArray := prog_5_method_8_code
def yX3_readExpression : MethodName := ⟨RX3, "readExpression", "(LStairsInSteps$Text;I)V"⟩
abbrev cX3_readSum : ByteArray := prog_5_method_9_code
def yX3_readSum : MethodName := ⟨RX3, "readSum", "(LStairsInSteps$Text;I)V"⟩
abbrev cX3_readProduct : ByteArray := prog_5_method_10_code
def yX3_readProduct : MethodName := ⟨RX3, "readProduct", "(LStairsInSteps$Text;I)V"⟩
abbrev cX3_readSigned : ByteArray := prog_5_method_11_code
def yX3_readSigned : MethodName := ⟨RX3, "readSigned", "(LStairsInSteps$Text;I)V"⟩
abbrev cX3_readThing : ByteArray := prog_5_method_12_code
def yX3_readThing : MethodName := ⟨RX3, "readThing", "(LStairsInSteps$Text;I)V"⟩
abbrev cX3_readClosing : ByteArray := prog_5_method_13_code
def yX3_readClosing : MethodName := ⟨RX3, "readClosing", "(LStairsInSteps$Text;)V"⟩
abbrev cX3_readNumber : ByteArray := prog_5_method_14_code
def yX3_readNumber : MethodName := ⟨RX3, "readNumber", "(LStairsInSteps$Text;)V"⟩
abbrev cX3_priceFor : ByteArray := prog_5_method_15_code
def yX3_priceFor : MethodName := ⟨RX3, "priceFor", "([I)I"⟩
abbrev cX3_join : ByteArray := prog_5_method_16_code
def yX3_join : MethodName := ⟨RX3, "join", "(III)I"⟩
def RX4 : String := "StairsInSteps$Parts"
def TX4 : u_T := fun k => match k with
  | 0 => ("StairsInSteps$Parts", "owned", "[I", true)
  | 1 => ("StairsInSteps$Parts", "mains", "[I", true)
  | 2 => ("StairsInSteps$Parts", "past", "[I", true)
  | 3 => ("StairsInSteps$Parts", "oldest", "I", false)
  | _ => ("StairsInSteps$Parts", "sales", "I", false)
def tyX4 : Nat → FieldType := fun k => match k with
  | 0 => .array .int
  | 1 => .array .int
  | 2 => .array .int
  | 3 => .int
  | _ => .int
abbrev wsX40 : List Cond := u_ws RX4 TX4 5
theorem nmX4 : ∀ a, a < 5 → ∀ b, b < 5 → a ≠ b → (TX4 a).2.1 ≠ (TX4 b).2.1 := by decide +kernel
theorem tyX4_ok : ∀ k, k < 5 → parseFieldDescriptor (TX4 k).2.2.1 = some (tyX4 k) := by decide +kernel
abbrev cX4_init : ByteArray := prog_6_method_1_code
def yX4_init : MethodName := ⟨RX4, "<init>", "()V"⟩
abbrev cX4_deal : ByteArray := prog_6_method_2_code
def yX4_deal : MethodName := ⟨RX4, "deal", "([II)V"⟩
abbrev cX4_restore : ByteArray := prog_6_method_3_code
def yX4_restore : MethodName := ⟨RX4, "restore", "([I)V"⟩
abbrev cX4_findMains : ByteArray := prog_6_method_4_code
def yX4_findMains : MethodName := ⟨RX4, "findMains", "()V"⟩
abbrev cX4_findMain : ByteArray := prog_6_method_5_code
def yX4_findMain : MethodName := ⟨RX4, "findMain", "(I)V"⟩
abbrev cX4_mainOf : ByteArray := prog_6_method_6_code
def yX4_mainOf : MethodName := ⟨RX4, "mainOf", "(I)I"⟩
abbrev cX4_shareOf : ByteArray := prog_6_method_7_code
def yX4_shareOf : MethodName := ⟨RX4, "shareOf", "(II)I"⟩
abbrev cX4_sumOf : ByteArray := prog_6_method_8_code
def yX4_sumOf : MethodName := ⟨RX4, "sumOf", "(I)I"⟩
abbrev cX4_shareInto : ByteArray := prog_6_method_9_code
def yX4_shareInto : MethodName := ⟨RX4, "shareInto", "(I[I)V"⟩
abbrev cX4_sumInto : ByteArray := prog_6_method_10_code
def yX4_sumInto : MethodName := ⟨RX4, "sumInto", "([I)V"⟩
abbrev cX4_mainsInto : ByteArray := prog_6_method_11_code
def yX4_mainsInto : MethodName := ⟨RX4, "mainsInto", "([I)V"⟩
abbrev cX4_remember : ByteArray := prog_6_method_12_code
def yX4_remember : MethodName := ⟨RX4, "remember", "()V"⟩
abbrev cX4_takeBack : ByteArray := prog_6_method_13_code
def yX4_takeBack : MethodName := ⟨RX4, "takeBack", "()Z"⟩
abbrev cX4_move : ByteArray := prog_6_method_14_code
def yX4_move : MethodName := ⟨RX4, "move", "(IIII)V"⟩
abbrev cX4_inherit : ByteArray := prog_6_method_15_code
def yX4_inherit : MethodName := ⟨RX4, "inherit", "(III)V"⟩
def RX5 : String := "StairsInSteps$Pilgrim"
def TX5 : u_T := fun k => match k with
  | 0 => ("StairsInSteps$Pilgrim", "knees", "I", true)
  | 1 => ("StairsInSteps$Pilgrim", "purse", "I", true)
  | 2 => ("StairsInSteps$Pilgrim", "leap", "I", true)
  | 3 => ("StairsInSteps$Pilgrim", "load", "I", true)
  | 4 => ("StairsInSteps$Pilgrim", "vow", "I", false)
  | 5 => ("StairsInSteps$Pilgrim", "at", "I", false)
  | 6 => ("StairsInSteps$Pilgrim", "kneesLeft", "I", false)
  | 7 => ("StairsInSteps$Pilgrim", "purseLeft", "I", false)
  | _ => ("StairsInSteps$Pilgrim", "routes", "LStairsInSteps$Routes;", true)
def tyX5 : Nat → FieldType := fun k => match k with
  | 0 => .int
  | 1 => .int
  | 2 => .int
  | 3 => .int
  | 4 => .int
  | 5 => .int
  | 6 => .int
  | 7 => .int
  | _ => .object "StairsInSteps$Routes"
abbrev wsX50 : List Cond := u_ws RX5 TX5 9
theorem nmX5 : ∀ a, a < 9 → ∀ b, b < 9 → a ≠ b → (TX5 a).2.1 ≠ (TX5 b).2.1 := by decide +kernel
theorem tyX5_ok : ∀ k, k < 9 → parseFieldDescriptor (TX5 k).2.2.1 = some (tyX5 k) := by decide +kernel
abbrev cX5_init : ByteArray := prog_7_method_1_code
def yX5_init : MethodName := ⟨RX5, "<init>", "(LStairsInSteps$Stairs;IIII)V"⟩
abbrev cX5_startAnew : ByteArray := prog_7_method_2_code
def yX5_startAnew : MethodName := ⟨RX5, "startAnew", "()V"⟩
abbrev cX5_comesTo : ByteArray := prog_7_method_3_code
def yX5_comesTo : MethodName := ⟨RX5, "comesTo", "(I)Z"⟩
abbrev cX5_vowsAgainst : ByteArray := prog_7_method_4_code
def yX5_vowsAgainst : MethodName := ⟨RX5, "vowsAgainst", "(I)Z"⟩
def RX6 : String := "StairsInSteps$Routes"
def TX6 : u_T := fun k => match k with
  | 0 => ("StairsInSteps$Routes", "stairs", "LStairsInSteps$Stairs;", true)
  | 1 => ("StairsInSteps$Routes", "knees", "I", true)
  | 2 => ("StairsInSteps$Routes", "purse", "I", true)
  | 3 => ("StairsInSteps$Routes", "leap", "I", true)
  | 4 => ("StairsInSteps$Routes", "cost", "[I", true)
  | 5 => ("StairsInSteps$Routes", "effort", "[I", true)
  | 6 => ("StairsInSteps$Routes", "open", "[Z", true)
  | 7 => ("StairsInSteps$Routes", "leastUp", "[I", true)
  | 8 => ("StairsInSteps$Routes", "leastFrom", "[I", true)
  | 9 => ("StairsInSteps$Routes", "rising", "LStairsInSteps$Rows;", true)
  | 10 => ("StairsInSteps$Routes", "ending", "LStairsInSteps$Rows;", true)
  | 11 => ("StairsInSteps$Routes", "offered", "[J", true)
  | 12 => ("StairsInSteps$Routes", "offeredPay", "[I", true)
  | 13 => ("StairsInSteps$Routes", "prices", "[I", true)
  | 14 => ("StairsInSteps$Routes", "load", "I", false)
  | _ => ("StairsInSteps$Routes", "top", "I", false)
def tyX6 : Nat → FieldType := fun k => match k with
  | 0 => .object "StairsInSteps$Stairs"
  | 1 => .int
  | 2 => .int
  | 3 => .int
  | 4 => .array .int
  | 5 => .array .int
  | 6 => .array .boolean
  | 7 => .array .int
  | 8 => .array .int
  | 9 => .object "StairsInSteps$Rows"
  | 10 => .object "StairsInSteps$Rows"
  | 11 => .array .long
  | 12 => .array .int
  | 13 => .array .int
  | 14 => .int
  | _ => .int
abbrev wsX60 : List Cond := u_ws RX6 TX6 16
theorem nmX6 : ∀ a, a < 16 → ∀ b, b < 16 → a ≠ b → (TX6 a).2.1 ≠ (TX6 b).2.1 := by decide +kernel
theorem tyX6_ok : ∀ k, k < 16 → parseFieldDescriptor (TX6 k).2.2.1 = some (tyX6 k) := by decide +kernel
abbrev cX6_init : ByteArray := prog_8_method_1_code
def yX6_init : MethodName := ⟨RX6, "<init>", "(LStairsInSteps$Stairs;III)V"⟩
abbrev cX6_lay : ByteArray := prog_8_method_2_code
def yX6_lay : MethodName := ⟨RX6, "lay", "(III)V"⟩
abbrev cX6_measure : ByteArray := prog_8_method_3_code
def yX6_measure : MethodName := ⟨RX6, "measure", "(II)V"⟩
abbrev cX6_moveTo : ByteArray := prog_8_method_4_code
def yX6_moveTo : MethodName := ⟨RX6, "moveTo", "(II)I"⟩
abbrev cX6_keyOf : ByteArray := prog_8_method_5_code
def yX6_keyOf : MethodName := ⟨RX6, "keyOf", "(II)J"⟩
abbrev cX6_leastEffortUp : ByteArray := prog_8_method_6_code
def yX6_leastEffortUp : MethodName := ⟨RX6, "leastEffortUp", "(I)I"⟩
abbrev cX6_leastEffortFrom : ByteArray := prog_8_method_7_code
def yX6_leastEffortFrom : MethodName := ⟨RX6, "leastEffortFrom", "(I)I"⟩
abbrev cX6_feed : ByteArray := prog_8_method_8_code
def yX6_feed : MethodName := ⟨RX6, "feed", "(LStairsInSteps$Rows;IJI)V"⟩
abbrev cX6_cheapest : ByteArray := prog_8_method_9_code
def yX6_cheapest : MethodName := ⟨RX6, "cheapest", "()J"⟩
abbrev cX6_survey : ByteArray := prog_8_method_10_code
def yX6_survey : MethodName := ⟨RX6, "survey", "()V"⟩
abbrev cX6_lower : ByteArray := prog_8_method_11_code
def yX6_lower : MethodName := ⟨RX6, "lower", "(I)V"⟩
abbrev cX6_raiseTo : ByteArray := prog_8_method_12_code
def yX6_raiseTo : MethodName := ⟨RX6, "raiseTo", "(I)V"⟩
abbrev cX6_raiseOne : ByteArray := prog_8_method_13_code
def yX6_raiseOne : MethodName := ⟨RX6, "raiseOne", "(I)V"⟩
abbrev cX6_addOffers : ByteArray := prog_8_method_14_code
def yX6_addOffers : MethodName := ⟨RX6, "addOffers", "(I[I[I)V"⟩
abbrev cX6_offerBy : ByteArray := prog_8_method_15_code
def yX6_offerBy : MethodName := ⟨RX6, "offerBy", "(III)V"⟩
def RX7 : String := "StairsInSteps$Rows"
def TX7 : u_T := fun k => match k with
  | 0 => ("StairsInSteps$Rows", "keys", "[J", false)
  | 1 => ("StairsInSteps$Rows", "first", "[I", true)
  | 2 => ("StairsInSteps$Rows", "size", "[I", true)
  | 3 => ("StairsInSteps$Rows", "filled", "I", false)
  | 4 => ("StairsInSteps$Rows", "head", "[I", true)
  | 5 => ("StairsInSteps$Rows", "tail", "[I", true)
  | 6 => ("StairsInSteps$Rows", "shift", "[J", true)
  | 7 => ("StairsInSteps$Rows", "ahead", "[J", true)
  | 8 => ("StairsInSteps$Rows", "merged", "I", false)
  | _ => ("StairsInSteps$Rows", "waiting", "I", false)
def tyX7 : Nat → FieldType := fun k => match k with
  | 0 => .array .long
  | 1 => .array .int
  | 2 => .array .int
  | 3 => .int
  | 4 => .array .int
  | 5 => .array .int
  | 6 => .array .long
  | 7 => .array .long
  | 8 => .int
  | _ => .int
abbrev wsX70 : List Cond := u_ws RX7 TX7 10
theorem nmX7 : ∀ a, a < 10 → ∀ b, b < 10 → a ≠ b → (TX7 a).2.1 ≠ (TX7 b).2.1 := by decide +kernel
theorem tyX7_ok : ∀ k, k < 10 → parseFieldDescriptor (TX7 k).2.2.1 = some (tyX7 k) := by decide +kernel
abbrev cX7_init : ByteArray := prog_9_method_1_code
def yX7_init : MethodName := ⟨RX7, "<init>", "()V"⟩
abbrev cX7_begin : ByteArray := prog_9_method_2_code
def yX7_begin : MethodName := ⟨RX7, "begin", "(IJ)V"⟩
abbrev cX7_start : ByteArray := prog_9_method_3_code
def yX7_start : MethodName := ⟨RX7, "start", "(I)V"⟩
abbrev cX7_merge : ByteArray := prog_9_method_4_code
def yX7_merge : MethodName := ⟨RX7, "merge", "(IJ)V"⟩
abbrev cX7_sizeAt : ByteArray := prog_9_method_5_code
def yX7_sizeAt : MethodName := ⟨RX7, "sizeAt", "(I)I"⟩
abbrev cX7_keyAt : ByteArray := prog_9_method_6_code
def yX7_keyAt : MethodName := ⟨RX7, "keyAt", "(II)J"⟩
abbrev cX7_take : ByteArray := prog_9_method_7_code
def yX7_take : MethodName := ⟨RX7, "take", "()J"⟩
abbrev cX7_push : ByteArray := prog_9_method_8_code
def yX7_push : MethodName := ⟨RX7, "push", "(IJ)V"⟩
abbrev cX7_leastJoined : ByteArray := prog_9_method_9_code
def yX7_leastJoined : MethodName := ⟨RX7, "leastJoined", "(ILStairsInSteps$Rows;II)J"⟩
abbrev cX7_keepCheapest : ByteArray := prog_9_method_10_code
def yX7_keepCheapest : MethodName := ⟨RX7, "keepCheapest", "(III)V"⟩
abbrev cX7_keepEachCost : ByteArray := prog_9_method_11_code
def yX7_keepEachCost : MethodName := ⟨RX7, "keepEachCost", "(III)V"⟩
abbrev cX7_pushSummed : ByteArray := prog_9_method_12_code
def yX7_pushSummed : MethodName := ⟨RX7, "pushSummed", "(IJ)V"⟩
def RX8 : String := "StairsInSteps$Stairs"
def TX8 : u_T := fun k => match k with
  | 0 => ("StairsInSteps$Stairs", "rise", "[I", true)
  | 1 => ("StairsInSteps$Stairs", "state", "[I", true)
  | 2 => ("StairsInSteps$Stairs", "asks", "[I", true)
  | 3 => ("StairsInSteps$Stairs", "widow", "[I", true)
  | 4 => ("StairsInSteps$Stairs", "shares", "LStairsInSteps$Parts;", true)
  | 5 => ("StairsInSteps$Stairs", "feuds", "[I", true)
  | 6 => ("StairsInSteps$Stairs", "treading", "LStairsInSteps$Law;", true)
  | 7 => ("StairsInSteps$Stairs", "leaping", "LStairsInSteps$Law;", true)
  | 8 => ("StairsInSteps$Stairs", "letters", "[I", true)
  | _ => ("StairsInSteps$Stairs", "size", "I", false)
def tyX8 : Nat → FieldType := fun k => match k with
  | 0 => .array .int
  | 1 => .array .int
  | 2 => .array .int
  | 3 => .array .int
  | 4 => .object "StairsInSteps$Parts"
  | 5 => .array .int
  | 6 => .object "StairsInSteps$Law"
  | 7 => .object "StairsInSteps$Law"
  | 8 => .array .int
  | _ => .int
abbrev wsX80 : List Cond := u_ws RX8 TX8 10
theorem nmX8 : ∀ a, a < 10 → ∀ b, b < 10 → a ≠ b → (TX8 a).2.1 ≠ (TX8 b).2.1 := by decide +kernel
theorem tyX8_ok : ∀ k, k < 10 → parseFieldDescriptor (TX8 k).2.2.1 = some (tyX8 k) := by decide +kernel
abbrev cX8_init : ByteArray := prog_10_method_1_code
def yX8_init : MethodName := ⟨RX8, "<init>", "()V"⟩
abbrev cX8_build : ByteArray := prog_10_method_2_code
def yX8_build : MethodName := ⟨RX8, "build", "(LStairsInSteps$StairsReader;)V"⟩
abbrev cX8_has : ByteArray := prog_10_method_3_code
def yX8_has : MethodName := ⟨RX8, "has", "(I)Z"⟩
abbrev cX8_sumOfAsks : ByteArray := prog_10_method_4_code
def yX8_sumOfAsks : MethodName := ⟨RX8, "sumOfAsks", "()I"⟩
abbrev cX8_quarrel : ByteArray := prog_10_method_5_code
def yX8_quarrel : MethodName := ⟨RX8, "quarrel", "(IIZ)V"⟩
abbrev cX8_inFeud : ByteArray := prog_10_method_6_code
def yX8_inFeud : MethodName := ⟨RX8, "inFeud", "(II)Z"⟩
abbrev cX8_sumOfFeuds : ByteArray := prog_10_method_7_code
def yX8_sumOfFeuds : MethodName := ⟨RX8, "sumOfFeuds", "()I"⟩
abbrev cX8_effortOfMove : ByteArray := prog_10_method_8_code
def yX8_effortOfMove : MethodName := ⟨RX8, "effortOfMove", "(III)I"⟩
abbrev cX8_costOfMove : ByteArray := prog_10_method_9_code
def yX8_costOfMove : MethodName := ⟨RX8, "costOfMove", "(III)I"⟩
abbrev cX8_priceOf : ByteArray := prog_10_method_10_code
def yX8_priceOf : MethodName := ⟨RX8, "priceOf", "(IIIII)I"⟩
abbrev cX8_pricesInto : ByteArray := prog_10_method_11_code
def yX8_pricesInto : MethodName := ⟨RX8, "pricesInto", "([IIIIII)V"⟩
abbrev cX8_putLetters : ByteArray := prog_10_method_12_code
def yX8_putLetters : MethodName := ⟨RX8, "putLetters", "(IIII)V"⟩
abbrev cX8_mindsFeud : ByteArray := prog_10_method_13_code
def yX8_mindsFeud : MethodName := ⟨RX8, "mindsFeud", "(II)Z"⟩
def RX9 : String := "StairsInSteps$StairsReader"
def TX9 : u_T := fun k => match k with
  | 0 => ("StairsInSteps$StairsReader", "rise", "[I", true)
  | 1 => ("StairsInSteps$StairsReader", "state", "[I", true)
  | 2 => ("StairsInSteps$StairsReader", "asks", "[I", true)
  | 3 => ("StairsInSteps$StairsReader", "widow", "[I", true)
  | 4 => ("StairsInSteps$StairsReader", "owner", "[I", true)
  | 5 => ("StairsInSteps$StairsReader", "size", "I", false)
  | 6 => ("StairsInSteps$StairsReader", "at", "I", false)
  | 7 => ("StairsInSteps$StairsReader", "limit", "I", false)
  | _ => ("StairsInSteps$StairsReader", "fault", "I", false)
def tyX9 : Nat → FieldType := fun k => match k with
  | 0 => .array .int
  | 1 => .array .int
  | 2 => .array .int
  | 3 => .array .int
  | 4 => .array .int
  | 5 => .int
  | 6 => .int
  | 7 => .int
  | _ => .int
abbrev wsX90 : List Cond := u_ws RX9 TX9 9
theorem nmX9 : ∀ a, a < 9 → ∀ b, b < 9 → a ≠ b → (TX9 a).2.1 ≠ (TX9 b).2.1 := by decide +kernel
theorem tyX9_ok : ∀ k, k < 9 → parseFieldDescriptor (TX9 k).2.2.1 = some (tyX9 k) := by decide +kernel
abbrev cX9_init : ByteArray := prog_11_method_1_code
def yX9_init : MethodName := ⟨RX9, "<init>", "()V"⟩
abbrev cX9_read : ByteArray := prog_11_method_2_code
def yX9_read : MethodName := ⟨RX9, "read", "(LStairsInSteps$Text;)I"⟩
abbrev cX9_look : ByteArray := prog_11_method_3_code
def yX9_look : MethodName := ⟨RX9, "look", "(LStairsInSteps$Text;)I"⟩
abbrev cX9_fail : ByteArray := prog_11_method_4_code
def yX9_fail : MethodName := ⟨RX9, "fail", "(I)Z"⟩
abbrev cX9_readBreak : ByteArray := prog_11_method_5_code
def yX9_readBreak : MethodName := ⟨RX9, "readBreak", "(LStairsInSteps$Text;)Z"⟩
abbrev cX9_readMark : ByteArray := prog_11_method_6_code
def yX9_readMark : MethodName := ⟨RX9, "readMark", "(LStairsInSteps$Text;C)Z"⟩
abbrev cX9_readNumber : ByteArray := prog_11_method_7_code
def yX9_readNumber : MethodName := ⟨RX9, "readNumber", "(LStairsInSteps$Text;II)I"⟩
abbrev cX9_readFamily : ByteArray := prog_11_method_8_code
def yX9_readFamily : MethodName := ⟨RX9, "readFamily", "(LStairsInSteps$Text;)I"⟩
abbrev cX9_readLine : ByteArray := prog_11_method_9_code
def yX9_readLine : MethodName := ⟨RX9, "readLine", "(LStairsInSteps$Text;)Z"⟩
abbrev cX9_readTimes : ByteArray := prog_11_method_10_code
def yX9_readTimes : MethodName := ⟨RX9, "readTimes", "(LStairsInSteps$Text;)I"⟩
abbrev cX9_put : ByteArray := prog_11_method_11_code
def yX9_put : MethodName := ⟨RX9, "put", "(IIIII)V"⟩
def RX10 : String := "StairsInSteps$Text"
def TX10 : u_T := fun k => match k with
  | 0 => ("StairsInSteps$Text", "signs", "[B", true)
  | _ => ("StairsInSteps$Text", "size", "I", false)
def tyX10 : Nat → FieldType := fun k => match k with
  | 0 => .array .byte
  | _ => .int
abbrev wsX100 : List Cond := u_ws RX10 TX10 2
theorem nmX10 : ∀ a, a < 2 → ∀ b, b < 2 → a ≠ b → (TX10 a).2.1 ≠ (TX10 b).2.1 := by decide +kernel
theorem tyX10_ok : ∀ k, k < 2 → parseFieldDescriptor (TX10 k).2.2.1 = some (tyX10 k) := by decide +kernel
abbrev cX10_init : ByteArray := prog_12_method_1_code
def yX10_init : MethodName := ⟨RX10, "<init>", "()V"⟩
abbrev cX10_append : ByteArray := prog_12_method_2_code
def yX10_append : MethodName := ⟨RX10, "append", "(I)Z"⟩
abbrev cX10_cut : ByteArray := prog_12_method_3_code
def yX10_cut : MethodName := ⟨RX10, "cut", "(I)Z"⟩
abbrev cX10_clear : ByteArray := prog_12_method_4_code
def yX10_clear : MethodName := ⟨RX10, "clear", "()V"⟩
abbrev cX10_signAt : ByteArray := prog_12_method_5_code
def yX10_signAt : MethodName := ⟨RX10, "signAt", "(I)I"⟩
abbrev cX10_isDigit : ByteArray := prog_12_method_6_code
def yX10_isDigit : MethodName := ⟨RX10, "isDigit", "(I)Z"⟩
def RX11 : String := "StairsInSteps"
def TX11 : u_T := fun k => match k with
  | 0 => ("StairsInSteps", "text", "LStairsInSteps$Text;", true)
  | 1 => ("StairsInSteps", "reader", "LStairsInSteps$StairsReader;", true)
  | 2 => ("StairsInSteps", "flight", "LStairsInSteps$Stairs;", true)
  | 3 => ("StairsInSteps", "pilgrims", "[LStairsInSteps$Pilgrim;", true)
  | 4 => ("StairsInSteps", "toldPilgrims", "I", false)
  | 5 => ("StairsInSteps", "purses", "[I", true)
  | 6 => ("StairsInSteps", "division", "[I", true)
  | 7 => ("StairsInSteps", "remainders", "[I", true)
  | 8 => ("StairsInSteps", "store", "[LStairsInSteps$Kept;", true)
  | 9 => ("StairsInSteps", "byCost", "LStairsInSteps$ByCost;", true)
  | 10 => ("StairsInSteps", "revel", "LStairsInSteps$Feast;", true)
  | 11 => ("StairsInSteps", "sumsNow", "[I", true)
  | 12 => ("StairsInSteps", "sumsThen", "[I", true)
  | 13 => ("StairsInSteps", "paid", "[I", true)
  | 14 => ("StairsInSteps", "climbers", "[I", true)
  | 15 => ("StairsInSteps", "told", "[J", true)
  | _ => ("StairsInSteps", "toldNumbers", "I", false)
def tyX11 : Nat → FieldType := fun k => match k with
  | 0 => .object "StairsInSteps$Text"
  | 1 => .object "StairsInSteps$StairsReader"
  | 2 => .object "StairsInSteps$Stairs"
  | 3 => .array (.object "StairsInSteps$Pilgrim")
  | 4 => .int
  | 5 => .array .int
  | 6 => .array .int
  | 7 => .array .int
  | 8 => .array (.object "StairsInSteps$Kept")
  | 9 => .object "StairsInSteps$ByCost"
  | 10 => .object "StairsInSteps$Feast"
  | 11 => .array .int
  | 12 => .array .int
  | 13 => .array .int
  | 14 => .array .int
  | 15 => .array .long
  | _ => .int
abbrev wsX110 : List Cond := u_ws RX11 TX11 17
theorem nmX11 : ∀ a, a < 17 → ∀ b, b < 17 → a ≠ b → (TX11 a).2.1 ≠ (TX11 b).2.1 := by decide +kernel
theorem tyX11_ok : ∀ k, k < 17 → parseFieldDescriptor (TX11 k).2.2.1 = some (tyX11 k) := by decide +kernel
abbrev cX11_init : ByteArray := prog_1_method_1_code
def yX11_init : MethodName := ⟨RX11, "<init>", "()V"⟩
abbrev cX11_sign : ByteArray := prog_1_method_2_code
def yX11_sign : MethodName := ⟨RX11, "sign", "(I)I"⟩
abbrev cX11_end : ByteArray := prog_1_method_3_code
def yX11_end : MethodName := ⟨RX11, "end", "(I)Z"⟩
abbrev cX11_stairs : ByteArray := prog_1_method_4_code
def yX11_stairs : MethodName := ⟨RX11, "stairs", "()I"⟩
abbrev cX11_law : ByteArray := prog_1_method_5_code
def yX11_law : MethodName := ⟨RX11, "law", "(I)I"⟩
abbrev cX11_step : ByteArray := prog_1_method_6_code
def yX11_step : MethodName := ⟨RX11, "step", "(II)I"⟩
abbrev cX11_set : ByteArray := prog_1_method_7_code
def yX11_set : MethodName := ⟨RX11, "set", "(III)I"⟩
abbrev cX11_sheet : ByteArray := prog_1_method_8_code
def yX11_sheet : MethodName := ⟨RX11, "sheet", "(IIII)I"⟩
abbrev cX11_feud : ByteArray := prog_1_method_9_code
def yX11_feud : MethodName := ⟨RX11, "feud", "(IIZ)Z"⟩
abbrev cX11_wears : ByteArray := prog_1_method_10_code
def yX11_wears : MethodName := ⟨RX11, "wears", "(I)I"⟩
abbrev cX11_pilgrim : ByteArray := prog_1_method_11_code
def yX11_pilgrim : MethodName := ⟨RX11, "pilgrim", "(IIII)I"⟩
abbrev cX11_vow : ByteArray := prog_1_method_12_code
def yX11_vow : MethodName := ⟨RX11, "vow", "(II)I"⟩
abbrev cX11_of : ByteArray := prog_1_method_13_code
def yX11_of : MethodName := ⟨RX11, "of", "(II)I"⟩
abbrev cX11_costs : ByteArray := prog_1_method_14_code
def yX11_costs : MethodName := ⟨RX11, "costs", "(II)I"⟩
abbrev cX11_tread : ByteArray := prog_1_method_15_code
def yX11_tread : MethodName := ⟨RX11, "tread", "(II)I"⟩
abbrev cX11_rests : ByteArray := prog_1_method_16_code
def yX11_rests : MethodName := ⟨RX11, "rests", "(II)I"⟩
abbrev cX11_returns : ByteArray := prog_1_method_17_code
def yX11_returns : MethodName := ⟨RX11, "returns", "(I)I"⟩
abbrev cX11_earned : ByteArray := prog_1_method_18_code
def yX11_earned : MethodName := ⟨RX11, "earned", "(I)I"⟩
abbrev cX11_climb : ByteArray := prog_1_method_19_code
def yX11_climb : MethodName := ⟨RX11, "climb", "(I)I"⟩
abbrev cX11_knees : ByteArray := prog_1_method_20_code
def yX11_knees : MethodName := ⟨RX11, "knees", "(I)I"⟩
abbrev cX11_ways : ByteArray := prog_1_method_21_code
def yX11_ways : MethodName := ⟨RX11, "ways", "(II)J"⟩
abbrev cX11_trod : ByteArray := prog_1_method_22_code
def yX11_trod : MethodName := ⟨RX11, "trod", "(III)I"⟩
abbrev cX11_who : ByteArray := prog_1_method_23_code
def yX11_who : MethodName := ⟨RX11, "who", "(II)I"⟩
abbrev cX11_next : ByteArray := prog_1_method_24_code
def yX11_next : MethodName := ⟨RX11, "next", "(II)I"⟩
abbrev cX11_bears : ByteArray := prog_1_method_25_code
def yX11_bears : MethodName := ⟨RX11, "bears", "(I)I"⟩
abbrev cX11_breaks : ByteArray := prog_1_method_26_code
def yX11_breaks : MethodName := ⟨RX11, "breaks", "(I)I"⟩
abbrev cX11_all : ByteArray := prog_1_method_27_code
def yX11_all : MethodName := ⟨RX11, "all", "()I"⟩
abbrev cX11_whole : ByteArray := prog_1_method_28_code
def yX11_whole : MethodName := ⟨RX11, "whole", "(I)I"⟩
abbrev cX11_mends : ByteArray := prog_1_method_29_code
def yX11_mends : MethodName := ⟨RX11, "mends", "(I)I"⟩
abbrev cX11_shut : ByteArray := prog_1_method_30_code
def yX11_shut : MethodName := ⟨RX11, "shut", "(I)I"⟩
abbrev cX11_toll : ByteArray := prog_1_method_31_code
def yX11_toll : MethodName := ⟨RX11, "toll", "(I)I"⟩
abbrev cX11_peace : ByteArray := prog_1_method_32_code
def yX11_peace : MethodName := ⟨RX11, "peace", "()I"⟩
abbrev cX11_lamps : ByteArray := prog_1_method_33_code
def yX11_lamps : MethodName := ⟨RX11, "lamps", "(I)I"⟩
abbrev cX11_would : ByteArray := prog_1_method_34_code
def yX11_would : MethodName := ⟨RX11, "would", "(II)I"⟩
abbrev cX11_best : ByteArray := prog_1_method_35_code
def yX11_best : MethodName := ⟨RX11, "best", "(I)I"⟩
abbrev cX11_market : ByteArray := prog_1_method_36_code
def yX11_market : MethodName := ⟨RX11, "market", "(I)I"⟩
abbrev cX11_parts : ByteArray := prog_1_method_37_code
def yX11_parts : MethodName := ⟨RX11, "parts", "(II)I"⟩
abbrev cX11_sells : ByteArray := prog_1_method_38_code
def yX11_sells : MethodName := ⟨RX11, "sells", "(IIIII)I"⟩
abbrev cX11_dies : ByteArray := prog_1_method_39_code
def yX11_dies : MethodName := ⟨RX11, "dies", "(II)I"⟩
abbrev cX11_undo : ByteArray := prog_1_method_40_code
def yX11_undo : MethodName := ⟨RX11, "undo", "()I"⟩
abbrev cX11_rail : ByteArray := prog_1_method_41_code
def yX11_rail : MethodName := ⟨RX11, "rail", "(I)I"⟩
abbrev cX11_rules : ByteArray := prog_1_method_42_code
def yX11_rules : MethodName := ⟨RX11, "rules", "(II)I"⟩
abbrev cX11_feast : ByteArray := prog_1_method_43_code
def yX11_feast : MethodName := ⟨RX11, "feast", "(I)I"⟩
abbrev cX11_jam : ByteArray := prog_1_method_44_code
def yX11_jam : MethodName := ⟨RX11, "jam", "()I"⟩
abbrev cX11_keep : ByteArray := prog_1_method_45_code
def yX11_keep : MethodName := ⟨RX11, "keep", "(I)Z"⟩
abbrev cX11_again : ByteArray := prog_1_method_46_code
def yX11_again : MethodName := ⟨RX11, "again", "(I)Z"⟩
abbrev cX11_count : ByteArray := prog_1_method_47_code
def yX11_count : MethodName := ⟨RX11, "count", "(I)I"⟩
abbrev cX11_row : ByteArray := prog_1_method_48_code
def yX11_row : MethodName := ⟨RX11, "row", "(I)J"⟩
abbrev cX11_tellNothing : ByteArray := prog_1_method_49_code
def yX11_tellNothing : MethodName := ⟨RX11, "tellNothing", "()V"⟩
abbrev cX11_tellMore : ByteArray := prog_1_method_50_code
def yX11_tellMore : MethodName := ⟨RX11, "tellMore", "(J)V"⟩
abbrev cX11_tellOne : ByteArray := prog_1_method_51_code
def yX11_tellOne : MethodName := ⟨RX11, "tellOne", "(J)V"⟩
abbrev cX11_tellTwo : ByteArray := prog_1_method_52_code
def yX11_tellTwo : MethodName := ⟨RX11, "tellTwo", "(JJ)V"⟩
abbrev cX11_tellFraction : ByteArray := prog_1_method_53_code
def yX11_tellFraction : MethodName := ⟨RX11, "tellFraction", "(JJ)V"⟩
abbrev cX11_tellDifferences : ByteArray := prog_1_method_54_code
def yX11_tellDifferences : MethodName := ⟨RX11, "tellDifferences", "()I"⟩
abbrev cX11_isFamily : ByteArray := prog_1_method_55_code
def yX11_isFamily : MethodName := ⟨RX11, "isFamily", "(I)Z"⟩
abbrev cX11_isAsked : ByteArray := prog_1_method_56_code
def yX11_isAsked : MethodName := ⟨RX11, "isAsked", "(I)Z"⟩
abbrev cX11_entryOf : ByteArray := prog_1_method_57_code
def yX11_entryOf : MethodName := ⟨RX11, "entryOf", "(II)I"⟩
abbrev cX11_costIn : ByteArray := prog_1_method_58_code
def yX11_costIn : MethodName := ⟨RX11, "costIn", "(J)I"⟩
abbrev cX11_effortIn : ByteArray := prog_1_method_59_code
def yX11_effortIn : MethodName := ⟨RX11, "effortIn", "(J)I"⟩
abbrev cX11_movesIn : ByteArray := prog_1_method_60_code
def yX11_movesIn : MethodName := ⟨RX11, "movesIn", "(J)I"⟩
abbrev cX11_bitOf : ByteArray := prog_1_method_61_code
def yX11_bitOf : MethodName := ⟨RX11, "bitOf", "(I)J"⟩
abbrev cX11_treads : ByteArray := prog_1_method_62_code
def yX11_treads : MethodName := ⟨RX11, "treads", "(JI)Z"⟩
abbrev cX11_find : ByteArray := prog_1_method_63_code
def yX11_find : MethodName := ⟨RX11, "find", "(I)LStairsInSteps$Pilgrim;"⟩
abbrev cX11_payForMove : ByteArray := prog_1_method_64_code
def yX11_payForMove : MethodName := ⟨RX11, "payForMove", "(LStairsInSteps$Pilgrim;I)V"⟩
abbrev cX11_lead : ByteArray := prog_1_method_65_code
def yX11_lead : MethodName := ⟨RX11, "lead", "(III)V"⟩
abbrev cX11_divide : ByteArray := prog_1_method_66_code
def yX11_divide : MethodName := ⟨RX11, "divide", "(II)V"⟩
abbrev cX11_sumOfPurses : ByteArray := prog_1_method_67_code
def yX11_sumOfPurses : MethodName := ⟨RX11, "sumOfPurses", "()I"⟩
abbrev cX11_fewestOver : ByteArray := prog_1_method_68_code
def yX11_fewestOver : MethodName := ⟨RX11, "fewestOver", "(I)I"⟩
abbrev cX11_sumUp : ByteArray := prog_1_method_69_code
def yX11_sumUp : MethodName := ⟨RX11, "sumUp", "(I[I)V"⟩
abbrev cX11_weighAlone : ByteArray := prog_1_method_70_code
def yX11_weighAlone : MethodName := ⟨RX11, "weighAlone", "(I)V"⟩
abbrev cX11_weigh : ByteArray := prog_1_method_71_code
def yX11_weigh : MethodName := ⟨RX11, "weigh", "(I)V"⟩
abbrev cX11_mostPaid : ByteArray := prog_1_method_72_code
def yX11_mostPaid : MethodName := ⟨RX11, "mostPaid", "()I"⟩
abbrev cX11_haggle : ByteArray := prog_1_method_73_code
def yX11_haggle : MethodName := ⟨RX11, "haggle", "()Z"⟩
abbrev cX11_climbAllTo : ByteArray := prog_1_method_74_code
def yX11_climbAllTo : MethodName := ⟨RX11, "climbAllTo", "(I)V"⟩
abbrev cX11_measureAllAt : ByteArray := prog_1_method_75_code
def yX11_measureAllAt : MethodName := ⟨RX11, "measureAllAt", "(I)V"⟩
abbrev cX11_hold : ByteArray := prog_1_method_76_code
def yX11_hold : MethodName := ⟨RX11, "hold", "(I)V"⟩
def RX12 : String := "StairsInStepsModel"
def TX12 : u_T := fun k => match k with
  | 0 => ("StairsInStepsModel", "steps", "I", false)
  | 1 => ("StairsInStepsModel", "rise", "[I", true)
  | 2 => ("StairsInStepsModel", "state", "[I", true)
  | 3 => ("StairsInStepsModel", "asks", "[I", true)
  | 4 => ("StairsInStepsModel", "isWidow", "[Z", true)
  | 5 => ("StairsInStepsModel", "parts", "[I", true)
  | 6 => ("StairsInStepsModel", "isFeud", "[Z", true)
  | 7 => ("StairsInStepsModel", "stairsTold", "I", false)
  | 8 => ("StairsInStepsModel", "pilgrims", "I", false)
  | 9 => ("StairsInStepsModel", "knees", "[I", true)
  | 10 => ("StairsInStepsModel", "purse", "[I", true)
  | 11 => ("StairsInStepsModel", "leap", "[I", true)
  | 12 => ("StairsInStepsModel", "load", "[I", true)
  | 13 => ("StairsInStepsModel", "vow", "[I", true)
  | 14 => ("StairsInStepsModel", "where", "[I", true)
  | 15 => ("StairsInStepsModel", "kneesLeft", "[I", true)
  | 16 => ("StairsInStepsModel", "purseLeft", "[I", true)
  | 17 => ("StairsInStepsModel", "earned", "[I", true)
  | 18 => ("StairsInStepsModel", "text", "[B", true)
  | 19 => ("StairsInStepsModel", "typed", "I", false)
  | 20 => ("StairsInStepsModel", "row", "[J", true)
  | 21 => ("StairsInStepsModel", "rowMany", "I", false)
  | 22 => ("StairsInStepsModel", "thrown", "I", false)
  | 23 => ("StairsInStepsModel", "read", "[B", false)
  | 24 => ("StairsInStepsModel", "size", "I", false)
  | 25 => ("StairsInStepsModel", "top", "I", false)
  | 26 => ("StairsInStepsModel", "at", "I", false)
  | 27 => ("StairsInStepsModel", "wrong", "I", false)
  | 28 => ("StairsInStepsModel", "newStep", "[I", true)
  | 29 => ("StairsInStepsModel", "laws", "[[B", true)
  | 30 => ("StairsInStepsModel", "lawSize", "[I", true)
  | 31 => ("StairsInStepsModel", "askedStep", "I", false)
  | 32 => ("StairsInStepsModel", "askedFrom", "I", false)
  | 33 => ("StairsInStepsModel", "askedLoad", "I", false)
  | 34 => ("StairsInStepsModel", "askedLeaps", "I", false)
  | 35 => ("StairsInStepsModel", "share", "[I", true)
  | 36 => ("StairsInStepsModel", "rest", "[J", true)
  | 37 => ("StairsInStepsModel", "moveCost", "[I", true)
  | 38 => ("StairsInStepsModel", "moveEffort", "[I", true)
  | 39 => ("StairsInStepsModel", "shut", "I", false)
  | 40 => ("StairsInStepsModel", "best", "[I", true)
  | 41 => ("StairsInStepsModel", "climbCost", "I", false)
  | 42 => ("StairsInStepsModel", "climbEffort", "I", false)
  | 43 => ("StairsInStepsModel", "climbMoves", "I", false)
  | 44 => ("StairsInStepsModel", "climbRow", "[I", true)
  | 45 => ("StairsInStepsModel", "many", "[I", true)
  | 46 => ("StairsInStepsModel", "leastEffort", "I", false)
  | 47 => ("StairsInStepsModel", "leastMany", "I", false)
  | 48 => ("StairsInStepsModel", "allMany", "I", false)
  | 49 => ("StairsInStepsModel", "allCosts", "I", false)
  | 50 => ("StairsInStepsModel", "allEfforts", "I", false)
  | 51 => ("StairsInStepsModel", "bestPaid", "I", false)
  | 52 => ("StairsInStepsModel", "sales", "I", false)
  | 53 => ("StairsInStepsModel", "partsWere", "[I", true)
  | 54 => ("StairsInStepsModel", "partsNow", "[I", true)
  | 55 => ("StairsInStepsModel", "goes", "[I", true)
  | 56 => ("StairsInStepsModel", "goesMany", "[I", true)
  | 57 => ("StairsInStepsModel", "gone", "[I", true)
  | 58 => ("StairsInStepsModel", "waited", "[I", true)
  | 59 => ("StairsInStepsModel", "waitedFor", "[I", true)
  | 60 => ("StairsInStepsModel", "crowd", "I", false)
  | 61 => ("StairsInStepsModel", "placeThen", "[I", true)
  | 62 => ("StairsInStepsModel", "kept", "[I", true)
  | 63 => ("StairsInStepsModel", "isKept", "[Z", true)
  | 64 => ("StairsInStepsModel", "keptStairs", "[I", true)
  | 65 => ("StairsInStepsModel", "keptPilgrims", "[I", true)
  | _ => ("StairsInStepsModel", "keptAt", "I", false)
def tyX12 : Nat → FieldType := fun k => match k with
  | 0 => .int
  | 1 => .array .int
  | 2 => .array .int
  | 3 => .array .int
  | 4 => .array .boolean
  | 5 => .array .int
  | 6 => .array .boolean
  | 7 => .int
  | 8 => .int
  | 9 => .array .int
  | 10 => .array .int
  | 11 => .array .int
  | 12 => .array .int
  | 13 => .array .int
  | 14 => .array .int
  | 15 => .array .int
  | 16 => .array .int
  | 17 => .array .int
  | 18 => .array .byte
  | 19 => .int
  | 20 => .array .long
  | 21 => .int
  | 22 => .int
  | 23 => .array .byte
  | 24 => .int
  | 25 => .int
  | 26 => .int
  | 27 => .int
  | 28 => .array .int
  | 29 => .array (.array .byte)
  | 30 => .array .int
  | 31 => .int
  | 32 => .int
  | 33 => .int
  | 34 => .int
  | 35 => .array .int
  | 36 => .array .long
  | 37 => .array .int
  | 38 => .array .int
  | 39 => .int
  | 40 => .array .int
  | 41 => .int
  | 42 => .int
  | 43 => .int
  | 44 => .array .int
  | 45 => .array .int
  | 46 => .int
  | 47 => .int
  | 48 => .int
  | 49 => .int
  | 50 => .int
  | 51 => .int
  | 52 => .int
  | 53 => .array .int
  | 54 => .array .int
  | 55 => .array .int
  | 56 => .array .int
  | 57 => .array .int
  | 58 => .array .int
  | 59 => .array .int
  | 60 => .int
  | 61 => .array .int
  | 62 => .array .int
  | 63 => .array .boolean
  | 64 => .array .int
  | 65 => .array .int
  | _ => .int
abbrev wsX120 : List Cond := u_ws RX12 TX12 67
theorem nmX12 : ∀ a, a < 67 → ∀ b, b < 67 → a ≠ b → (TX12 a).2.1 ≠ (TX12 b).2.1 := by decide +kernel
theorem tyX12_ok : ∀ k, k < 67 → parseFieldDescriptor (TX12 k).2.2.1 = some (tyX12 k) := by decide +kernel
abbrev cX12_init : ByteArray := prog_14_method_1_code
def yX12_init : MethodName := ⟨RX12, "<init>", "()V"⟩
abbrev cX12_thrown : ByteArray := prog_14_method_2_code
def yX12_thrown : MethodName := ⟨RX12, "thrown", "()I"⟩
abbrev cX12_in : ByteArray := prog_14_method_3_code
def yX12_in : MethodName := ⟨RX12, "in", "(III)Z"⟩
abbrev cX12_has : ByteArray := prog_14_method_4_code
def yX12_has : MethodName := ⟨RX12, "has", "(II)Z"⟩
abbrev cX12_lost : ByteArray := prog_14_method_5_code
def yX12_lost : MethodName := ⟨RX12, "lost", "()I"⟩
abbrev cX12_tell : ByteArray := prog_14_method_6_code
def yX12_tell : MethodName := ⟨RX12, "tell", "(J)V"⟩
abbrev cX12_isStep : ByteArray := prog_14_method_7_code
def yX12_isStep : MethodName := ⟨RX12, "isStep", "(I)Z"⟩
abbrev cX12_isFamily : ByteArray := prog_14_method_8_code
def yX12_isFamily : MethodName := ⟨RX12, "isFamily", "(I)Z"⟩
abbrev cX12_isOne : ByteArray := prog_14_method_9_code
def yX12_isOne : MethodName := ⟨RX12, "isOne", "(I)Z"⟩
abbrev cX12_mainOf : ByteArray := prog_14_method_10_code
def yX12_mainOf : MethodName := ⟨RX12, "mainOf", "(I)I"⟩
abbrev cX12_sign : ByteArray := prog_14_method_11_code
def yX12_sign : MethodName := ⟨RX12, "sign", "(I)I"⟩
abbrev cX12_end : ByteArray := prog_14_method_12_code
def yX12_end : MethodName := ⟨RX12, "end", "(I)Z"⟩
abbrev cX12_begin : ByteArray := prog_14_method_13_code
def yX12_begin : MethodName := ⟨RX12, "begin", "([BII)V"⟩
abbrev cX12_here : ByteArray := prog_14_method_14_code
def yX12_here : MethodName := ⟨RX12, "here", "()I"⟩
abbrev cX12_fine : ByteArray := prog_14_method_15_code
def yX12_fine : MethodName := ⟨RX12, "fine", "()Z"⟩
abbrev cX12_fault : ByteArray := prog_14_method_16_code
def yX12_fault : MethodName := ⟨RX12, "fault", "(I)V"⟩
abbrev cX12_passes : ByteArray := prog_14_method_17_code
def yX12_passes : MethodName := ⟨RX12, "passes", "(C)Z"⟩
abbrev cX12_need : ByteArray := prog_14_method_18_code
def yX12_need : MethodName := ⟨RX12, "need", "(C)V"⟩
abbrev cX12_number : ByteArray := prog_14_method_19_code
def yX12_number : MethodName := ⟨RX12, "number", "(III)I"⟩
abbrev cX12_stairs : ByteArray := prog_14_method_20_code
def yX12_stairs : MethodName := ⟨RX12, "stairs", "()I"⟩
abbrev cX12_readLine : ByteArray := prog_14_method_21_code
def yX12_readLine : MethodName := ⟨RX12, "readLine", "(I)I"⟩
abbrev cX12_held : ByteArray := prog_14_method_22_code
def yX12_held : MethodName := ⟨RX12, "held", "(I)I"⟩
abbrev cX12_sum : ByteArray := prog_14_method_23_code
def yX12_sum : MethodName := ⟨RX12, "sum", "(I)I"⟩
abbrev cX12_product : ByteArray := prog_14_method_24_code
def yX12_product : MethodName := ⟨RX12, "product", "(I)I"⟩
abbrev cX12_thing : ByteArray := prog_14_method_25_code
def yX12_thing : MethodName := ⟨RX12, "thing", "(I)I"⟩
abbrev cX12_letter : ByteArray := prog_14_method_26_code
def yX12_letter : MethodName := ⟨RX12, "letter", "(C)I"⟩
abbrev cX12_law : ByteArray := prog_14_method_27_code
def yX12_law : MethodName := ⟨RX12, "law", "(I)I"⟩
abbrev cX12_lawOf : ByteArray := prog_14_method_28_code
def yX12_lawOf : MethodName := ⟨RX12, "lawOf", "(IIIII)I"⟩
abbrev cX12_step : ByteArray := prog_14_method_29_code
def yX12_step : MethodName := ⟨RX12, "step", "(II)I"⟩
abbrev cX12_set : ByteArray := prog_14_method_30_code
def yX12_set : MethodName := ⟨RX12, "set", "(III)I"⟩
abbrev cX12_sheet : ByteArray := prog_14_method_31_code
def yX12_sheet : MethodName := ⟨RX12, "sheet", "(IIII)I"⟩
abbrev cX12_feud : ByteArray := prog_14_method_32_code
def yX12_feud : MethodName := ⟨RX12, "feud", "(IIZ)Z"⟩
abbrev cX12_setFeud : ByteArray := prog_14_method_33_code
def yX12_setFeud : MethodName := ⟨RX12, "setFeud", "(IIZ)V"⟩
abbrev cX12_wears : ByteArray := prog_14_method_34_code
def yX12_wears : MethodName := ⟨RX12, "wears", "(I)I"⟩
abbrev cX12_pilgrim : ByteArray := prog_14_method_35_code
def yX12_pilgrim : MethodName := ⟨RX12, "pilgrim", "(IIII)I"⟩
abbrev cX12_vow : ByteArray := prog_14_method_36_code
def yX12_vow : MethodName := ⟨RX12, "vow", "(II)I"⟩
abbrev cX12_of : ByteArray := prog_14_method_37_code
def yX12_of : MethodName := ⟨RX12, "of", "(II)I"⟩
abbrev cX12_isMove : ByteArray := prog_14_method_38_code
def yX12_isMove : MethodName := ⟨RX12, "isMove", "(III)Z"⟩
abbrev cX12_effortOf : ByteArray := prog_14_method_39_code
def yX12_effortOf : MethodName := ⟨RX12, "effortOf", "(III)I"⟩
abbrev cX12_costOf : ByteArray := prog_14_method_40_code
def yX12_costOf : MethodName := ⟨RX12, "costOf", "(III)I"⟩
abbrev cX12_costs : ByteArray := prog_14_method_41_code
def yX12_costs : MethodName := ⟨RX12, "costs", "(II)I"⟩
abbrev cX12_divide : ByteArray := prog_14_method_42_code
def yX12_divide : MethodName := ⟨RX12, "divide", "(II)V"⟩
abbrev cX12_earn : ByteArray := prog_14_method_43_code
def yX12_earn : MethodName := ⟨RX12, "earn", "(III)V"⟩
abbrev cX12_tread : ByteArray := prog_14_method_44_code
def yX12_tread : MethodName := ⟨RX12, "tread", "(II)I"⟩
abbrev cX12_rests : ByteArray := prog_14_method_45_code
def yX12_rests : MethodName := ⟨RX12, "rests", "(II)I"⟩
abbrev cX12_returns : ByteArray := prog_14_method_46_code
def yX12_returns : MethodName := ⟨RX12, "returns", "(I)I"⟩
abbrev cX12_earned : ByteArray := prog_14_method_47_code
def yX12_earned : MethodName := ⟨RX12, "earned", "(I)I"⟩
abbrev cX12_layMoves : ByteArray := prog_14_method_48_code
def yX12_layMoves : MethodName := ⟨RX12, "layMoves", "(I)V"⟩
abbrev cX12_findByEffort : ByteArray := prog_14_method_49_code
def yX12_findByEffort : MethodName := ⟨RX12, "findByEffort", "(I)V"⟩
abbrev cX12_findClimb : ByteArray := prog_14_method_50_code
def yX12_findClimb : MethodName := ⟨RX12, "findClimb", "(I)Z"⟩
abbrev cX12_isOn : ByteArray := prog_14_method_51_code
def yX12_isOn : MethodName := ⟨RX12, "isOn", "(III)Z"⟩
abbrev cX12_climb : ByteArray := prog_14_method_52_code
def yX12_climb : MethodName := ⟨RX12, "climb", "(I)I"⟩
abbrev cX12_knees : ByteArray := prog_14_method_53_code
def yX12_knees : MethodName := ⟨RX12, "knees", "(I)I"⟩
abbrev cX12_countWays : ByteArray := prog_14_method_54_code
def yX12_countWays : MethodName := ⟨RX12, "countWays", "(II)I"⟩
abbrev cX12_isCost : ByteArray := prog_14_method_55_code
def yX12_isCost : MethodName := ⟨RX12, "isCost", "(I)Z"⟩
abbrev cX12_ways : ByteArray := prog_14_method_56_code
def yX12_ways : MethodName := ⟨RX12, "ways", "(II)J"⟩
abbrev cX12_countTreading : ByteArray := prog_14_method_57_code
def yX12_countTreading : MethodName := ⟨RX12, "countTreading", "(III)I"⟩
abbrev cX12_trod : ByteArray := prog_14_method_58_code
def yX12_trod : MethodName := ⟨RX12, "trod", "(III)I"⟩
abbrev cX12_tellPart : ByteArray := prog_14_method_59_code
def yX12_tellPart : MethodName := ⟨RX12, "tellPart", "(JJ)V"⟩
abbrev cX12_who : ByteArray := prog_14_method_60_code
def yX12_who : MethodName := ⟨RX12, "who", "(II)I"⟩
abbrev cX12_findByCost : ByteArray := prog_14_method_61_code
def yX12_findByCost : MethodName := ⟨RX12, "findByCost", "(I)V"⟩
abbrev cX12_next : ByteArray := prog_14_method_62_code
def yX12_next : MethodName := ⟨RX12, "next", "(II)I"⟩
abbrev cX12_bears : ByteArray := prog_14_method_63_code
def yX12_bears : MethodName := ⟨RX12, "bears", "(I)I"⟩
abbrev cX12_breaks : ByteArray := prog_14_method_64_code
def yX12_breaks : MethodName := ⟨RX12, "breaks", "(I)I"⟩
abbrev cX12_findAll : ByteArray := prog_14_method_65_code
def yX12_findAll : MethodName := ⟨RX12, "findAll", "()V"⟩
abbrev cX12_all : ByteArray := prog_14_method_66_code
def yX12_all : MethodName := ⟨RX12, "all", "()I"⟩
abbrev cX12_tellMore : ByteArray := prog_14_method_67_code
def yX12_tellMore : MethodName := ⟨RX12, "tellMore", "(III)I"⟩
abbrev cX12_whole : ByteArray := prog_14_method_68_code
def yX12_whole : MethodName := ⟨RX12, "whole", "(I)I"⟩
abbrev cX12_shut : ByteArray := prog_14_method_69_code
def yX12_shut : MethodName := ⟨RX12, "shut", "(I)I"⟩
abbrev cX12_mends : ByteArray := prog_14_method_70_code
def yX12_mends : MethodName := ⟨RX12, "mends", "(I)I"⟩
abbrev cX12_toll : ByteArray := prog_14_method_71_code
def yX12_toll : MethodName := ⟨RX12, "toll", "(I)I"⟩
abbrev cX12_peace : ByteArray := prog_14_method_72_code
def yX12_peace : MethodName := ⟨RX12, "peace", "()I"⟩
abbrev cX12_lamps : ByteArray := prog_14_method_73_code
def yX12_lamps : MethodName := ⟨RX12, "lamps", "(I)I"⟩
abbrev cX12_paidTo : ByteArray := prog_14_method_74_code
def yX12_paidTo : MethodName := ⟨RX12, "paidTo", "(II)I"⟩
abbrev cX12_would : ByteArray := prog_14_method_75_code
def yX12_would : MethodName := ⟨RX12, "would", "(II)I"⟩
abbrev cX12_findBest : ByteArray := prog_14_method_76_code
def yX12_findBest : MethodName := ⟨RX12, "findBest", "(I)I"⟩
abbrev cX12_best : ByteArray := prog_14_method_77_code
def yX12_best : MethodName := ⟨RX12, "best", "(I)I"⟩
abbrev cX12_market : ByteArray := prog_14_method_78_code
def yX12_market : MethodName := ⟨RX12, "market", "(I)I"⟩
abbrev cX12_rememberParts : ByteArray := prog_14_method_79_code
def yX12_rememberParts : MethodName := ⟨RX12, "rememberParts", "()V"⟩
abbrev cX12_parts : ByteArray := prog_14_method_80_code
def yX12_parts : MethodName := ⟨RX12, "parts", "(II)I"⟩
abbrev cX12_sells : ByteArray := prog_14_method_81_code
def yX12_sells : MethodName := ⟨RX12, "sells", "(IIIII)I"⟩
abbrev cX12_dies : ByteArray := prog_14_method_82_code
def yX12_dies : MethodName := ⟨RX12, "dies", "(II)I"⟩
abbrev cX12_undo : ByteArray := prog_14_method_83_code
def yX12_undo : MethodName := ⟨RX12, "undo", "()I"⟩
abbrev cX12_rail : ByteArray := prog_14_method_84_code
def yX12_rail : MethodName := ⟨RX12, "rail", "(I)I"⟩
abbrev cX12_rules : ByteArray := prog_14_method_85_code
def yX12_rules : MethodName := ⟨RX12, "rules", "(II)I"⟩
abbrev cX12_placeOf : ByteArray := prog_14_method_86_code
def yX12_placeOf : MethodName := ⟨RX12, "placeOf", "(I)I"⟩
abbrev cX12_onStep : ByteArray := prog_14_method_87_code
def yX12_onStep : MethodName := ⟨RX12, "onStep", "(I)I"⟩
abbrev cX12_runFeast : ByteArray := prog_14_method_88_code
def yX12_runFeast : MethodName := ⟨RX12, "runFeast", "(I)I"⟩
abbrev cX12_feast : ByteArray := prog_14_method_89_code
def yX12_feast : MethodName := ⟨RX12, "feast", "(I)I"⟩
abbrev cX12_jam : ByteArray := prog_14_method_90_code
def yX12_jam : MethodName := ⟨RX12, "jam", "()I"⟩
abbrev cX12_put : ByteArray := prog_14_method_91_code
def yX12_put : MethodName := ⟨RX12, "put", "(I)V"⟩
abbrev cX12_take : ByteArray := prog_14_method_92_code
def yX12_take : MethodName := ⟨RX12, "take", "()I"⟩
abbrev cX12_keep : ByteArray := prog_14_method_93_code
def yX12_keep : MethodName := ⟨RX12, "keep", "(I)Z"⟩
abbrev cX12_again : ByteArray := prog_14_method_94_code
def yX12_again : MethodName := ⟨RX12, "again", "(I)Z"⟩
abbrev cX12_count : ByteArray := prog_14_method_95_code
def yX12_count : MethodName := ⟨RX12, "count", "(I)I"⟩
abbrev cX12_row : ByteArray := prog_14_method_96_code
def yX12_row : MethodName := ⟨RX12, "row", "(I)J"⟩
def RJx145de : String := "java/io/Serializable"
def TJx145de : u_T := fun k => match k with
  | _ => ("", "", "", false)
def tyJx145de : Nat → FieldType := fun k => match k with
  | _ => .int
abbrev wsJx145de0 : List Cond := u_ws RJx145de TJx145de 0
theorem nmJx145de : ∀ a, a < 0 → ∀ b, b < 0 → a ≠ b → (TJx145de a).2.1 ≠ (TJx145de b).2.1 := by decide +kernel
theorem tyJx145de_ok : ∀ k, k < 0 → parseFieldDescriptor (TJx145de k).2.2.1 = some (tyJx145de k) := by decide +kernel
def RJx9f9b0 : String := "java/lang/CharSequence"
def TJx9f9b0 : u_T := fun k => match k with
  | _ => ("", "", "", false)
def tyJx9f9b0 : Nat → FieldType := fun k => match k with
  | _ => .int
abbrev wsJx9f9b00 : List Cond := u_ws RJx9f9b0 TJx9f9b0 0
theorem nmJx9f9b0 : ∀ a, a < 0 → ∀ b, b < 0 → a ≠ b → (TJx9f9b0 a).2.1 ≠ (TJx9f9b0 b).2.1 := by decide +kernel
theorem tyJx9f9b0_ok : ∀ k, k < 0 → parseFieldDescriptor (TJx9f9b0 k).2.2.1 = some (tyJx9f9b0 k) := by decide +kernel
def RJ11 : String := "java/lang/Character"
def TJ11 : u_T := fun k => match k with
  | _ => ("", "", "", false)
def tyJ11 : Nat → FieldType := fun k => match k with
  | _ => .int
abbrev wsJ110 : List Cond := u_ws RJ11 TJ11 0
theorem nmJ11 : ∀ a, a < 0 → ∀ b, b < 0 → a ≠ b → (TJ11 a).2.1 ≠ (TJ11 b).2.1 := by decide +kernel
theorem tyJ11_ok : ∀ k, k < 0 → parseFieldDescriptor (TJ11 k).2.2.1 = some (tyJ11 k) := by decide +kernel
abbrev cJ11_isValidCodePoint_9a6ad : ByteArray := prog_17_method_11_code
def yJ11_isValidCodePoint_9a6ad : MethodName := ⟨RJ11, "isValidCodePoint", "(I)Z"⟩
abbrev cJ11_highSurrogate_5068e : ByteArray := prog_17_method_28_code
def yJ11_highSurrogate_5068e : MethodName := ⟨RJ11, "highSurrogate", "(I)C"⟩
abbrev cJ11_lowSurrogate_5068e : ByteArray := prog_17_method_29_code
def yJ11_lowSurrogate_5068e : MethodName := ⟨RJ11, "lowSurrogate", "(I)C"⟩
def RJx8e188 : String := "java/lang/Cloneable"
def TJx8e188 : u_T := fun k => match k with
  | _ => ("", "", "", false)
def tyJx8e188 : Nat → FieldType := fun k => match k with
  | _ => .int
abbrev wsJx8e1880 : List Cond := u_ws RJx8e188 TJx8e188 0
theorem nmJx8e188 : ∀ a, a < 0 → ∀ b, b < 0 → a ≠ b → (TJx8e188 a).2.1 ≠ (TJx8e188 b).2.1 := by decide +kernel
theorem tyJx8e188_ok : ∀ k, k < 0 → parseFieldDescriptor (TJx8e188 k).2.2.1 = some (tyJx8e188 k) := by decide +kernel
def RJxb160c : String := "java/lang/Comparable"
def TJxb160c : u_T := fun k => match k with
  | _ => ("", "", "", false)
def tyJxb160c : Nat → FieldType := fun k => match k with
  | _ => .int
abbrev wsJxb160c0 : List Cond := u_ws RJxb160c TJxb160c 0
theorem nmJxb160c : ∀ a, a < 0 → ∀ b, b < 0 → a ≠ b → (TJxb160c a).2.1 ≠ (TJxb160c b).2.1 := by decide +kernel
theorem tyJxb160c_ok : ∀ k, k < 0 → parseFieldDescriptor (TJxb160c k).2.2.1 = some (tyJxb160c k) := by decide +kernel
def RJ6 : String := "java/lang/Integer"
def TJ6 : u_T := fun k => match k with
  | _ => ("", "", "", false)
def tyJ6 : Nat → FieldType := fun k => match k with
  | _ => .int
abbrev wsJ60 : List Cond := u_ws RJ6 TJ6 0
theorem nmJ6 : ∀ a, a < 0 → ∀ b, b < 0 → a ≠ b → (TJ6 a).2.1 ≠ (TJ6 b).2.1 := by decide +kernel
theorem tyJ6_ok : ∀ k, k < 0 → parseFieldDescriptor (TJ6 k).2.2.1 = some (tyJ6 k) := by decide +kernel
abbrev cJ6_bitCount_0f7a4 : ByteArray := prog_21_method_49_code
def yJ6_bitCount_0f7a4 : MethodName := ⟨RJ6, "bitCount", "(I)I"⟩
def RJ9 : String := "java/lang/Math"
def TJ9 : u_T := fun k => match k with
  | _ => ("", "", "", false)
def tyJ9 : Nat → FieldType := fun k => match k with
  | _ => .int
abbrev wsJ90 : List Cond := u_ws RJ9 TJ9 0
theorem nmJ9 : ∀ a, a < 0 → ∀ b, b < 0 → a ≠ b → (TJ9 a).2.1 ≠ (TJ9 b).2.1 := by decide +kernel
theorem tyJ9_ok : ∀ k, k < 0 → parseFieldDescriptor (TJ9 k).2.2.1 = some (tyJ9 k) := by decide +kernel
abbrev cJ9_max_7cf53 : ByteArray := prog_22_method_65_code
def yJ9_max_7cf53 : MethodName := ⟨RJ9, "max", "(II)I"⟩
abbrev cJ9_min_7cf53 : ByteArray := prog_22_method_69_code
def yJ9_min_7cf53 : MethodName := ⟨RJ9, "min", "(II)I"⟩
abbrev cJ9_min_f86c9 : ByteArray := prog_22_method_70_code
def yJ9_min_f86c9 : MethodName := ⟨RJ9, "min", "(JJ)J"⟩
def RJ0 : String := "java/lang/String"
def TJ0 : u_T := fun k => match k with
  | _ => ("", "", "", false)
def tyJ0 : Nat → FieldType := fun k => match k with
  | _ => .int
abbrev wsJ00 : List Cond := u_ws RJ0 TJ0 0
theorem nmJ0 : ∀ a, a < 0 → ∀ b, b < 0 → a ≠ b → (TJ0 a).2.1 ≠ (TJ0 b).2.1 := by decide +kernel
theorem tyJ0_ok : ∀ k, k < 0 → parseFieldDescriptor (TJ0 k).2.2.1 = some (tyJ0 k) := by decide +kernel
abbrev cJ0_length_8abf5 : ByteArray := prog_24_method_54_code
def yJ0_length_8abf5 : MethodName := ⟨RJ0, "length", "()I"⟩
abbrev cJ0_indexOf_0f7a4 : ByteArray := prog_24_method_79_code
def yJ0_indexOf_0f7a4 : MethodName := ⟨RJ0, "indexOf", "(I)I"⟩
abbrev cJ0_indexOf_7cf53 : ByteArray := prog_24_method_80_code
def yJ0_indexOf_7cf53 : MethodName := ⟨RJ0, "indexOf", "(II)I"⟩
abbrev cJ0_coder_7d493 : ByteArray := prog_24_method_152_code
def yJ0_coder_7d493 : MethodName := ⟨RJ0, "coder", "()B"⟩
abbrev cJ0_isLatin1_aae02 : ByteArray := prog_24_method_154_code
def yJ0_isLatin1_aae02 : MethodName := ⟨RJ0, "isLatin1", "()Z"⟩
abbrev cJ0_checkBoundsBeginEnd_23922 : ByteArray := prog_24_method_158_code
def yJ0_checkBoundsBeginEnd_23922 : MethodName := ⟨RJ0, "checkBoundsBeginEnd", "(III)V"⟩
def RJ1 : String := "java/lang/StringLatin1"
def TJ1 : u_T := fun k => match k with
  | _ => ("", "", "", false)
def tyJ1 : Nat → FieldType := fun k => match k with
  | _ => .int
abbrev wsJ10 : List Cond := u_ws RJ1 TJ1 0
theorem nmJ1 : ∀ a, a < 0 → ∀ b, b < 0 → a ≠ b → (TJ1 a).2.1 ≠ (TJ1 b).2.1 := by decide +kernel
theorem tyJ1_ok : ∀ k, k < 0 → parseFieldDescriptor (TJ1 k).2.2.1 = some (tyJ1 k) := by decide +kernel
abbrev cJ1_canEncode_9a6ad : ByteArray := prog_25_method_4_code
def yJ1_canEncode_9a6ad : MethodName := ⟨RJ1, "canEncode", "(I)Z"⟩
abbrev cJ1_indexOf_4cfef : ByteArray := prog_25_method_22_code
def yJ1_indexOf_4cfef : MethodName := ⟨RJ1, "indexOf", "([BIII)I"⟩
abbrev cJ1_indexOfChar_4cfef : ByteArray := prog_25_method_23_code
def yJ1_indexOfChar_4cfef : MethodName := ⟨RJ1, "indexOfChar", "([BIII)I"⟩
def RJ2 : String := "java/lang/StringUTF16"
def TJ2 : u_T := fun k => match k with
  | _ => ("", "", "", false)
def tyJ2 : Nat → FieldType := fun k => match k with
  | _ => .int
abbrev wsJ20 : List Cond := u_ws RJ2 TJ2 0
theorem nmJ2 : ∀ a, a < 0 → ∀ b, b < 0 → a ≠ b → (TJ2 a).2.1 ≠ (TJ2 b).2.1 := by decide +kernel
theorem tyJ2_ok : ∀ k, k < 0 → parseFieldDescriptor (TJ2 k).2.2.1 = some (tyJ2 k) := by decide +kernel
abbrev cJ2_getChar_3b067 : ByteArray := prog_26_method_5_code
def yJ2_getChar_3b067 : MethodName := ⟨RJ2, "getChar", "([BI)C"⟩
abbrev cJ2_length_9d52b : ByteArray := prog_26_method_6_code
def yJ2_length_9d52b : MethodName := ⟨RJ2, "length", "([B)I"⟩
abbrev cJ2_indexOf_4cfef : ByteArray := prog_26_method_40_code
def yJ2_indexOf_4cfef : MethodName := ⟨RJ2, "indexOf", "([BIII)I"⟩
abbrev cJ2_indexOfChar_4cfef : ByteArray := prog_26_method_47_code
def yJ2_indexOfChar_4cfef : MethodName := ⟨RJ2, "indexOfChar", "([BIII)I"⟩
abbrev cJ2_indexOfCharUnsafe_4cfef : ByteArray := prog_26_method_48_code
def yJ2_indexOfCharUnsafe_4cfef : MethodName := ⟨RJ2, "indexOfCharUnsafe", "([BIII)I"⟩
abbrev cJ2_indexOfSupplementary_4cfef : ByteArray := prog_26_method_49_code
def yJ2_indexOfSupplementary_4cfef : MethodName := ⟨RJ2, "indexOfSupplementary", "([BIII)I"⟩
abbrev cJ2_checkBoundsBeginEnd_d044e : ByteArray := prog_26_method_93_code
def yJ2_checkBoundsBeginEnd_d044e : MethodName := ⟨RJ2, "checkBoundsBeginEnd", "(II[B)V"⟩
def RJ10 : String := "java/lang/System"
def TJ10 : u_T := fun k => match k with
  | _ => ("", "", "", false)
def tyJ10 : Nat → FieldType := fun k => match k with
  | _ => .int
abbrev wsJ100 : List Cond := u_ws RJ10 TJ10 0
theorem nmJ10 : ∀ a, a < 0 → ∀ b, b < 0 → a ≠ b → (TJ10 a).2.1 ≠ (TJ10 b).2.1 := by decide +kernel
theorem tyJ10_ok : ∀ k, k < 0 → parseFieldDescriptor (TJ10 k).2.2.1 = some (tyJ10 k) := by decide +kernel
def RJxfd54e : String := "java/lang/constant/Constable"
def TJxfd54e : u_T := fun k => match k with
  | _ => ("", "", "", false)
def tyJxfd54e : Nat → FieldType := fun k => match k with
  | _ => .int
abbrev wsJxfd54e0 : List Cond := u_ws RJxfd54e TJxfd54e 0
theorem nmJxfd54e : ∀ a, a < 0 → ∀ b, b < 0 → a ≠ b → (TJxfd54e a).2.1 ≠ (TJxfd54e b).2.1 := by decide +kernel
theorem tyJxfd54e_ok : ∀ k, k < 0 → parseFieldDescriptor (TJxfd54e k).2.2.1 = some (tyJxfd54e k) := by decide +kernel
def RJx3cf43 : String := "java/lang/constant/ConstantDesc"
def TJx3cf43 : u_T := fun k => match k with
  | _ => ("", "", "", false)
def tyJx3cf43 : Nat → FieldType := fun k => match k with
  | _ => .int
abbrev wsJx3cf430 : List Cond := u_ws RJx3cf43 TJx3cf43 0
theorem nmJx3cf43 : ∀ a, a < 0 → ∀ b, b < 0 → a ≠ b → (TJx3cf43 a).2.1 ≠ (TJx3cf43 b).2.1 := by decide +kernel
theorem tyJx3cf43_ok : ∀ k, k < 0 → parseFieldDescriptor (TJx3cf43 k).2.2.1 = some (tyJx3cf43 k) := by decide +kernel
def RJ7 : String := "java/util/Arrays"
def TJ7 : u_T := fun k => match k with
  | _ => ("", "", "", false)
def tyJ7 : Nat → FieldType := fun k => match k with
  | _ => .int
abbrev wsJ70 : List Cond := u_ws RJ7 TJ7 0
theorem nmJ7 : ∀ a, a < 0 → ∀ b, b < 0 → a ≠ b → (TJ7 a).2.1 ≠ (TJ7 b).2.1 := by decide +kernel
theorem tyJ7_ok : ∀ k, k < 0 → parseFieldDescriptor (TJ7 k).2.2.1 = some (tyJ7 k) := by decide +kernel
abbrev cJ7_fill_d0a16 : ByteArray := prog_31_method_101_code
def yJ7_fill_d0a16 : MethodName := ⟨RJ7, "fill", "([JJ)V"⟩
abbrev cJ7_fill_53178 : ByteArray := prog_31_method_103_code
def yJ7_fill_53178 : MethodName := ⟨RJ7, "fill", "([II)V"⟩
abbrev cJ7_copyOf_c38d5 : ByteArray := prog_31_method_124_code
def yJ7_copyOf_c38d5 : MethodName := ⟨RJ7, "copyOf", "([JI)[J"⟩
def RJ3 : String := "jdk/internal/util/Preconditions"
def TJ3 : u_T := fun k => match k with
  | _ => ("", "", "", false)
def tyJ3 : Nat → FieldType := fun k => match k with
  | _ => .int
abbrev wsJ30 : List Cond := u_ws RJ3 TJ3 0
theorem nmJ3 : ∀ a, a < 0 → ∀ b, b < 0 → a ≠ b → (TJ3 a).2.1 ≠ (TJ3 b).2.1 := by decide +kernel
theorem tyJ3_ok : ∀ k, k < 0 → parseFieldDescriptor (TJ3 k).2.2.1 = some (tyJ3 k) := by decide +kernel
abbrev cJ3_checkFromToIndex_8c36e : ByteArray := prog_33_method_12_code
def yJ3_checkFromToIndex_8c36e : MethodName := ⟨RJ3, "checkFromToIndex", "(IIILjava/util/function/BiFunction;)I"⟩
def RL : String := "StairsInStepsLaw"
abbrev cL_step : ByteArray := method_3_code
def yL_step : MethodName := ⟨RL, "step", "(LStairsInSteps;II[J)I"⟩
abbrev cL_of : ByteArray := method_4_code
def yL_of : MethodName := ⟨RL, "of", "(LStairsInSteps;II[J)I"⟩
abbrev cL_row : ByteArray := method_5_code
def yL_row : MethodName := ⟨RL, "row", "(LStairsInSteps;I[J)I"⟩
abbrev cL_law : ByteArray := code
def yL_law : MethodName := ⟨RL, "law", "([I)Z"⟩
abbrev vwCl : List vw_C := [(RX0, TX0, 3), (RX1, TX1, 10), (RX2, TX2, 9), (RX3, TX3, 9), (RX4, TX4, 5), (RX5, TX5, 9), (RX6, TX6, 16), (RX7, TX7, 10), (RX8, TX8, 10), (RX9, TX9, 9), (RX10, TX10, 2), (RX11, TX11, 17), (RX12, TX12, 67)]
end
section
/-! ===== an instruction read out of a piece of the code ===== -/
/-- m is the piece of c from k on -/
def CK (c : ByteArray) (k : Nat) (m : ByteArray) : Prop := k % 4 = 0 ∧ ∀ j, (h : j < m.size) → ∃ h' : k + j < c.size, c[k + j]'h' = m[j]'h
def ckb (c : ByteArray) (k : Nat) (m : ByteArray) : Bool := Nat.beq (k % 4) 0 && decide ((c.data.toList.drop k).take m.data.toList.length = m.data.toList)
theorem ck_of {c m : ByteArray} {k : Nat} (h : ckb c k m = true) : CK c k m := by
  unfold ckb at h
  rw [Bool.and_eq_true] at h
  refine ⟨Nat.eq_of_beq_eq_true h.1, fun j hj => ?_⟩
  have e := of_decide_eq_true h.2
  have hj' : j < m.data.toList.length := hj
  have e2 : m.data.toList[j]? = c.data.toList[k + j]? := by
    have e3 : m.data.toList[j]? = ((c.data.toList.drop k).take m.data.toList.length)[j]? := by rw [e]
    rw [e3, List.getElem?_take, if_pos hj', List.getElem?_drop]
  rw [List.getElem?_eq_getElem hj'] at e2
  obtain ⟨hk, ek⟩ := List.getElem?_eq_some_iff.mp e2.symm
  exact ⟨hk, ek⟩
theorem er_ok {ε α : Type} {z : ε} {x : α} (h : (Except.error z : Except ε α) = .ok x) : False := by cases h
theorem ok_inj {ε α : Type} {x y : α} (h : (Except.ok x : Except ε α) = .ok y) : x = y := by
  cases h
  rfl
/-- what r reads of the piece r' reads of the code -/
def RSd (c m : ByteArray) (k : Nat) {α : Type} (r r' : Jvm.ClassFile.Decoder α) : Prop := ∀ (p : Nat) (x : α) (n : Nat), Jvm.ClassFile.Reader.runAt r m p = .ok (x, n) → Jvm.ClassFile.Reader.runAt r' c (k + p) = .ok (x, k + n)
theorem rd_pure {c m : ByteArray} {k : Nat} {α : Type} {x : α} : RSd c m k (pure x) (pure x) := by
  intro p y n h
  have e : (x, p) = (y, n) := ok_inj (ε := Jvm.ClassFile.DecodeError) h
  cases e
  rfl
theorem rd_throw {c m : ByteArray} {k : Nat} {α : Type} {e e' : Jvm.ClassFile.DecodeError} : RSd c m k (throw e : Jvm.ClassFile.Decoder α) (throw e') := by
  intro p y n h
  exact (er_ok (ε := Jvm.ClassFile.DecodeError) (z := e) (x := (y, n)) h).elim
theorem rd_bindAt {c : ByteArray} {p : Nat} {α β : Type} (r : Jvm.ClassFile.Decoder α) (f : α → Jvm.ClassFile.Decoder β) : Jvm.ClassFile.Reader.runAt (r >>= f) c p = Except.bind (Jvm.ClassFile.Reader.runAt r c p) (fun q => Jvm.ClassFile.Reader.runAt (f q.1) c q.2) := rfl
theorem rd_bindG {c m : ByteArray} {k : Nat} {α β : Type} {r r' : Jvm.ClassFile.Decoder α} {f f' : α → Jvm.ClassFile.Decoder β} {P : α → Prop} (hP : ∀ p x n, Jvm.ClassFile.Reader.runAt r m p = .ok (x, n) → P x) (h : RSd c m k r r') (g : ∀ x, P x → RSd c m k (f x) (f' x)) : RSd c m k (r >>= f) (r' >>= f') := by
  intro p y n e
  rw [rd_bindAt] at e ⊢
  cases hr : Jvm.ClassFile.Reader.runAt r m p with
  | error z => rw [hr] at e; exact (er_ok (ε := Jvm.ClassFile.DecodeError) (z := z) (x := (y, n)) e).elim
  | ok q =>
    rw [hr] at e
    rw [h p q.1 q.2 hr]
    exact g q.1 (hP p q.1 q.2 hr) q.2 y n e
theorem rd_bind {c m : ByteArray} {k : Nat} {α β : Type} {r r' : Jvm.ClassFile.Decoder α} {f f' : α → Jvm.ClassFile.Decoder β} (h : RSd c m k r r') (g : ∀ x, RSd c m k (f x) (f' x)) : RSd c m k (r >>= f) (r' >>= f') :=
  rd_bindG (P := fun _ => True) (fun _ _ _ _ => trivial) h (fun x _ => g x)
theorem rd_u1At {c : ByteArray} {p : Nat} (h : p < c.size) : Jvm.ClassFile.Reader.runAt (Jvm.ClassFile.Reader.u1 : Jvm.ClassFile.Decoder Nat) c p = .ok ((c[p]'h).toNat, p + 1) := by
  show Jvm.ClassFile.Reader.runAt (dite (p < c.size) (fun h => (do set (p + 1); pure (c[p]'h).toNat : Jvm.ClassFile.Decoder Nat)) (fun _ => throw (Jvm.ClassFile.HasTruncated.truncated p))) c p = _
  rw [dif_pos h]
  rfl
theorem rd_u1No {c : ByteArray} {p : Nat} (h : ¬ p < c.size) (q : Nat × Nat) (e : Jvm.ClassFile.Reader.runAt (Jvm.ClassFile.Reader.u1 : Jvm.ClassFile.Decoder Nat) c p = .ok q) : False := by
  have e : Jvm.ClassFile.Reader.runAt (dite (p < c.size) (fun h => (do set (p + 1); pure (c[p]'h).toNat : Jvm.ClassFile.Decoder Nat)) (fun _ => throw (Jvm.ClassFile.HasTruncated.truncated p))) c p = .ok q := e
  rw [dif_neg h] at e
  exact er_ok (ε := Jvm.ClassFile.DecodeError) (z := Jvm.ClassFile.HasTruncated.truncated p) (x := q) e
theorem rd_u1 {c m : ByteArray} {k : Nat} (hc : CK c k m) : RSd c m k Jvm.ClassFile.Reader.u1 Jvm.ClassFile.Reader.u1 := by
  intro p x n h
  by_cases hp : p < m.size
  · rw [rd_u1At hp] at h
    obtain ⟨h', e⟩ := hc.2 p hp
    rw [rd_u1At h', e]
    have e2 := ok_inj h
    cases e2
    rfl
  · exact (rd_u1No hp _ h).elim
theorem rd_u1lt {m : ByteArray} : ∀ p x n, Jvm.ClassFile.Reader.runAt (Jvm.ClassFile.Reader.u1 : Jvm.ClassFile.Decoder Nat) m p = .ok (x, n) → x < 256 := by
  intro p x n h
  by_cases hp : p < m.size
  · rw [rd_u1At hp] at h
    have e2 := ok_inj h
    cases e2
    exact UInt8.toNat_lt _
  · exact (rd_u1No hp _ h).elim
theorem rd_map {c m : ByteArray} {k : Nat} {α β : Type} {r r' : Jvm.ClassFile.Decoder α} {f : α → β} (h : RSd c m k r r') : RSd c m k (f <$> r) (f <$> r') := by
  have e : ∀ (c : ByteArray) (p : Nat) (r : Jvm.ClassFile.Decoder α), Jvm.ClassFile.Reader.runAt (f <$> r) c p = Except.bind (Jvm.ClassFile.Reader.runAt r c p) (fun q => .ok (f q.1, q.2)) := fun _ _ _ => rfl
  intro p y n g
  rw [e] at g ⊢
  cases hr : Jvm.ClassFile.Reader.runAt r m p with
  | error z => rw [hr] at g; exact (er_ok (ε := Jvm.ClassFile.DecodeError) (z := z) (x := (y, n)) g).elim
  | ok q =>
    rw [hr] at g
    rw [h p q.1 q.2 hr]
    have e2 : (f q.1, q.2) = (y, n) := ok_inj (ε := Jvm.ClassFile.DecodeError) g
    cases e2
    rfl
theorem rd_u2 {c m : ByteArray} {k : Nat} (hc : CK c k m) : RSd c m k Jvm.ClassFile.Reader.u2 Jvm.ClassFile.Reader.u2 := by
  unfold Jvm.ClassFile.Reader.u2
  exact rd_bind (rd_u1 hc) (fun _ => rd_bind (rd_u1 hc) (fun _ => rd_pure))
theorem rd_u4 {c m : ByteArray} {k : Nat} (hc : CK c k m) : RSd c m k Jvm.ClassFile.Reader.u4 Jvm.ClassFile.Reader.u4 := by
  unfold Jvm.ClassFile.Reader.u4
  exact rd_bind (rd_u2 hc) (fun _ => rd_bind (rd_u2 hc) (fun _ => rd_pure))
theorem rd_s1 {c m : ByteArray} {k : Nat} (hc : CK c k m) : RSd c m k Jvm.ClassFile.Reader.s1 Jvm.ClassFile.Reader.s1 := by
  unfold Jvm.ClassFile.Reader.s1
  exact rd_map (rd_u1 hc)
theorem rd_s2 {c m : ByteArray} {k : Nat} (hc : CK c k m) : RSd c m k Jvm.ClassFile.Reader.s2 Jvm.ClassFile.Reader.s2 := by
  unfold Jvm.ClassFile.Reader.s2
  exact rd_map (rd_u2 hc)
theorem rd_s4 {c m : ByteArray} {k : Nat} (hc : CK c k m) : RSd c m k Jvm.ClassFile.Reader.s4 Jvm.ClassFile.Reader.s4 := by
  unfold Jvm.ClassFile.Reader.s4
  exact rd_map (rd_u4 hc)
/-- the opcodes that are read so -/
def okop (n : Nat) : Bool := !(Nat.beq n 170 || Nat.beq n 171 || Nat.beq n 185 || Nat.beq n 186 || Nat.beq n 188 || Nat.beq n 196 || Nat.beq n 197)
theorem lst {P : Nat → Prop} {n : Nat} (h : ∀ x, x < n → P x) (hn : P n) : ∀ x, x < n + 1 → P x := fun x hx => (Nat.lt_or_eq_of_le (Nat.le_of_lt_succ hx)).elim (h x) (fun e => e ▸ hn)
theorem lt_all {P : Nat → Prop} (a0 : P 0) (a1 : P 1) (a2 : P 2) (a3 : P 3) (a4 : P 4) (a5 : P 5) (a6 : P 6) (a7 : P 7) (a8 : P 8) (a9 : P 9) (a10 : P 10) (a11 : P 11) (a12 : P 12) (a13 : P 13) (a14 : P 14) (a15 : P 15) (a16 : P 16) (a17 : P 17) (a18 : P 18) (a19 : P 19) (a20 : P 20) (a21 : P 21) (a22 : P 22) (a23 : P 23) (a24 : P 24) (a25 : P 25) (a26 : P 26) (a27 : P 27) (a28 : P 28) (a29 : P 29) (a30 : P 30) (a31 : P 31) (a32 : P 32) (a33 : P 33) (a34 : P 34) (a35 : P 35) (a36 : P 36) (a37 : P 37) (a38 : P 38) (a39 : P 39) (a40 : P 40) (a41 : P 41) (a42 : P 42) (a43 : P 43) (a44 : P 44) (a45 : P 45) (a46 : P 46) (a47 : P 47) (a48 : P 48) (a49 : P 49) (a50 : P 50) (a51 : P 51) (a52 : P 52) (a53 : P 53) (a54 : P 54) (a55 : P 55) (a56 : P 56) (a57 : P 57) (a58 : P 58) (a59 : P 59) (a60 : P 60) (a61 : P 61) (a62 : P 62) (a63 : P 63) (a64 : P 64) (a65 : P 65) (a66 : P 66) (a67 : P 67) (a68 : P 68) (a69 : P 69) (a70 : P 70) (a71 : P 71) (a72 : P 72) (a73 : P 73) (a74 : P 74) (a75 : P 75) (a76 : P 76) (a77 : P 77) (a78 : P 78) (a79 : P 79) (a80 : P 80) (a81 : P 81) (a82 : P 82) (a83 : P 83) (a84 : P 84) (a85 : P 85) (a86 : P 86) (a87 : P 87) (a88 : P 88) (a89 : P 89) (a90 : P 90) (a91 : P 91) (a92 : P 92) (a93 : P 93) (a94 : P 94) (a95 : P 95) (a96 : P 96) (a97 : P 97) (a98 : P 98) (a99 : P 99) (a100 : P 100) (a101 : P 101) (a102 : P 102) (a103 : P 103) (a104 : P 104) (a105 : P 105) (a106 : P 106) (a107 : P 107) (a108 : P 108) (a109 : P 109) (a110 : P 110) (a111 : P 111) (a112 : P 112) (a113 : P 113) (a114 : P 114) (a115 : P 115) (a116 : P 116) (a117 : P 117) (a118 : P 118) (a119 : P 119) (a120 : P 120) (a121 : P 121) (a122 : P 122) (a123 : P 123) (a124 : P 124) (a125 : P 125) (a126 : P 126) (a127 : P 127) (a128 : P 128) (a129 : P 129) (a130 : P 130) (a131 : P 131) (a132 : P 132) (a133 : P 133) (a134 : P 134) (a135 : P 135) (a136 : P 136) (a137 : P 137) (a138 : P 138) (a139 : P 139) (a140 : P 140) (a141 : P 141) (a142 : P 142) (a143 : P 143) (a144 : P 144) (a145 : P 145) (a146 : P 146) (a147 : P 147) (a148 : P 148) (a149 : P 149) (a150 : P 150) (a151 : P 151) (a152 : P 152) (a153 : P 153) (a154 : P 154) (a155 : P 155) (a156 : P 156) (a157 : P 157) (a158 : P 158) (a159 : P 159) (a160 : P 160) (a161 : P 161) (a162 : P 162) (a163 : P 163) (a164 : P 164) (a165 : P 165) (a166 : P 166) (a167 : P 167) (a168 : P 168) (a169 : P 169) (a170 : P 170) (a171 : P 171) (a172 : P 172) (a173 : P 173) (a174 : P 174) (a175 : P 175) (a176 : P 176) (a177 : P 177) (a178 : P 178) (a179 : P 179) (a180 : P 180) (a181 : P 181) (a182 : P 182) (a183 : P 183) (a184 : P 184) (a185 : P 185) (a186 : P 186) (a187 : P 187) (a188 : P 188) (a189 : P 189) (a190 : P 190) (a191 : P 191) (a192 : P 192) (a193 : P 193) (a194 : P 194) (a195 : P 195) (a196 : P 196) (a197 : P 197) (a198 : P 198) (a199 : P 199) (a200 : P 200) (a201 : P 201) (a202 : P 202) (a203 : P 203) (a204 : P 204) (a205 : P 205) (a206 : P 206) (a207 : P 207) (a208 : P 208) (a209 : P 209) (a210 : P 210) (a211 : P 211) (a212 : P 212) (a213 : P 213) (a214 : P 214) (a215 : P 215) (a216 : P 216) (a217 : P 217) (a218 : P 218) (a219 : P 219) (a220 : P 220) (a221 : P 221) (a222 : P 222) (a223 : P 223) (a224 : P 224) (a225 : P 225) (a226 : P 226) (a227 : P 227) (a228 : P 228) (a229 : P 229) (a230 : P 230) (a231 : P 231) (a232 : P 232) (a233 : P 233) (a234 : P 234) (a235 : P 235) (a236 : P 236) (a237 : P 237) (a238 : P 238) (a239 : P 239) (a240 : P 240) (a241 : P 241) (a242 : P 242) (a243 : P 243) (a244 : P 244) (a245 : P 245) (a246 : P 246) (a247 : P 247) (a248 : P 248) (a249 : P 249) (a250 : P 250) (a251 : P 251) (a252 : P 252) (a253 : P 253) (a254 : P 254) (a255 : P 255) : ∀ x, x < 256 → P x := by
  have b0 : ∀ x, x < 0 → P x := fun x h => absurd h (Nat.not_lt_zero x)
  have b1 : ∀ x, x < 1 → P x := lst (n := 0) b0 a0
  have b2 : ∀ x, x < 2 → P x := lst (n := 1) b1 a1
  have b3 : ∀ x, x < 3 → P x := lst (n := 2) b2 a2
  have b4 : ∀ x, x < 4 → P x := lst (n := 3) b3 a3
  have b5 : ∀ x, x < 5 → P x := lst (n := 4) b4 a4
  have b6 : ∀ x, x < 6 → P x := lst (n := 5) b5 a5
  have b7 : ∀ x, x < 7 → P x := lst (n := 6) b6 a6
  have b8 : ∀ x, x < 8 → P x := lst (n := 7) b7 a7
  have b9 : ∀ x, x < 9 → P x := lst (n := 8) b8 a8
  have b10 : ∀ x, x < 10 → P x := lst (n := 9) b9 a9
  have b11 : ∀ x, x < 11 → P x := lst (n := 10) b10 a10
  have b12 : ∀ x, x < 12 → P x := lst (n := 11) b11 a11
  have b13 : ∀ x, x < 13 → P x := lst (n := 12) b12 a12
  have b14 : ∀ x, x < 14 → P x := lst (n := 13) b13 a13
  have b15 : ∀ x, x < 15 → P x := lst (n := 14) b14 a14
  have b16 : ∀ x, x < 16 → P x := lst (n := 15) b15 a15
  have b17 : ∀ x, x < 17 → P x := lst (n := 16) b16 a16
  have b18 : ∀ x, x < 18 → P x := lst (n := 17) b17 a17
  have b19 : ∀ x, x < 19 → P x := lst (n := 18) b18 a18
  have b20 : ∀ x, x < 20 → P x := lst (n := 19) b19 a19
  have b21 : ∀ x, x < 21 → P x := lst (n := 20) b20 a20
  have b22 : ∀ x, x < 22 → P x := lst (n := 21) b21 a21
  have b23 : ∀ x, x < 23 → P x := lst (n := 22) b22 a22
  have b24 : ∀ x, x < 24 → P x := lst (n := 23) b23 a23
  have b25 : ∀ x, x < 25 → P x := lst (n := 24) b24 a24
  have b26 : ∀ x, x < 26 → P x := lst (n := 25) b25 a25
  have b27 : ∀ x, x < 27 → P x := lst (n := 26) b26 a26
  have b28 : ∀ x, x < 28 → P x := lst (n := 27) b27 a27
  have b29 : ∀ x, x < 29 → P x := lst (n := 28) b28 a28
  have b30 : ∀ x, x < 30 → P x := lst (n := 29) b29 a29
  have b31 : ∀ x, x < 31 → P x := lst (n := 30) b30 a30
  have b32 : ∀ x, x < 32 → P x := lst (n := 31) b31 a31
  have b33 : ∀ x, x < 33 → P x := lst (n := 32) b32 a32
  have b34 : ∀ x, x < 34 → P x := lst (n := 33) b33 a33
  have b35 : ∀ x, x < 35 → P x := lst (n := 34) b34 a34
  have b36 : ∀ x, x < 36 → P x := lst (n := 35) b35 a35
  have b37 : ∀ x, x < 37 → P x := lst (n := 36) b36 a36
  have b38 : ∀ x, x < 38 → P x := lst (n := 37) b37 a37
  have b39 : ∀ x, x < 39 → P x := lst (n := 38) b38 a38
  have b40 : ∀ x, x < 40 → P x := lst (n := 39) b39 a39
  have b41 : ∀ x, x < 41 → P x := lst (n := 40) b40 a40
  have b42 : ∀ x, x < 42 → P x := lst (n := 41) b41 a41
  have b43 : ∀ x, x < 43 → P x := lst (n := 42) b42 a42
  have b44 : ∀ x, x < 44 → P x := lst (n := 43) b43 a43
  have b45 : ∀ x, x < 45 → P x := lst (n := 44) b44 a44
  have b46 : ∀ x, x < 46 → P x := lst (n := 45) b45 a45
  have b47 : ∀ x, x < 47 → P x := lst (n := 46) b46 a46
  have b48 : ∀ x, x < 48 → P x := lst (n := 47) b47 a47
  have b49 : ∀ x, x < 49 → P x := lst (n := 48) b48 a48
  have b50 : ∀ x, x < 50 → P x := lst (n := 49) b49 a49
  have b51 : ∀ x, x < 51 → P x := lst (n := 50) b50 a50
  have b52 : ∀ x, x < 52 → P x := lst (n := 51) b51 a51
  have b53 : ∀ x, x < 53 → P x := lst (n := 52) b52 a52
  have b54 : ∀ x, x < 54 → P x := lst (n := 53) b53 a53
  have b55 : ∀ x, x < 55 → P x := lst (n := 54) b54 a54
  have b56 : ∀ x, x < 56 → P x := lst (n := 55) b55 a55
  have b57 : ∀ x, x < 57 → P x := lst (n := 56) b56 a56
  have b58 : ∀ x, x < 58 → P x := lst (n := 57) b57 a57
  have b59 : ∀ x, x < 59 → P x := lst (n := 58) b58 a58
  have b60 : ∀ x, x < 60 → P x := lst (n := 59) b59 a59
  have b61 : ∀ x, x < 61 → P x := lst (n := 60) b60 a60
  have b62 : ∀ x, x < 62 → P x := lst (n := 61) b61 a61
  have b63 : ∀ x, x < 63 → P x := lst (n := 62) b62 a62
  have b64 : ∀ x, x < 64 → P x := lst (n := 63) b63 a63
  have b65 : ∀ x, x < 65 → P x := lst (n := 64) b64 a64
  have b66 : ∀ x, x < 66 → P x := lst (n := 65) b65 a65
  have b67 : ∀ x, x < 67 → P x := lst (n := 66) b66 a66
  have b68 : ∀ x, x < 68 → P x := lst (n := 67) b67 a67
  have b69 : ∀ x, x < 69 → P x := lst (n := 68) b68 a68
  have b70 : ∀ x, x < 70 → P x := lst (n := 69) b69 a69
  have b71 : ∀ x, x < 71 → P x := lst (n := 70) b70 a70
  have b72 : ∀ x, x < 72 → P x := lst (n := 71) b71 a71
  have b73 : ∀ x, x < 73 → P x := lst (n := 72) b72 a72
  have b74 : ∀ x, x < 74 → P x := lst (n := 73) b73 a73
  have b75 : ∀ x, x < 75 → P x := lst (n := 74) b74 a74
  have b76 : ∀ x, x < 76 → P x := lst (n := 75) b75 a75
  have b77 : ∀ x, x < 77 → P x := lst (n := 76) b76 a76
  have b78 : ∀ x, x < 78 → P x := lst (n := 77) b77 a77
  have b79 : ∀ x, x < 79 → P x := lst (n := 78) b78 a78
  have b80 : ∀ x, x < 80 → P x := lst (n := 79) b79 a79
  have b81 : ∀ x, x < 81 → P x := lst (n := 80) b80 a80
  have b82 : ∀ x, x < 82 → P x := lst (n := 81) b81 a81
  have b83 : ∀ x, x < 83 → P x := lst (n := 82) b82 a82
  have b84 : ∀ x, x < 84 → P x := lst (n := 83) b83 a83
  have b85 : ∀ x, x < 85 → P x := lst (n := 84) b84 a84
  have b86 : ∀ x, x < 86 → P x := lst (n := 85) b85 a85
  have b87 : ∀ x, x < 87 → P x := lst (n := 86) b86 a86
  have b88 : ∀ x, x < 88 → P x := lst (n := 87) b87 a87
  have b89 : ∀ x, x < 89 → P x := lst (n := 88) b88 a88
  have b90 : ∀ x, x < 90 → P x := lst (n := 89) b89 a89
  have b91 : ∀ x, x < 91 → P x := lst (n := 90) b90 a90
  have b92 : ∀ x, x < 92 → P x := lst (n := 91) b91 a91
  have b93 : ∀ x, x < 93 → P x := lst (n := 92) b92 a92
  have b94 : ∀ x, x < 94 → P x := lst (n := 93) b93 a93
  have b95 : ∀ x, x < 95 → P x := lst (n := 94) b94 a94
  have b96 : ∀ x, x < 96 → P x := lst (n := 95) b95 a95
  have b97 : ∀ x, x < 97 → P x := lst (n := 96) b96 a96
  have b98 : ∀ x, x < 98 → P x := lst (n := 97) b97 a97
  have b99 : ∀ x, x < 99 → P x := lst (n := 98) b98 a98
  have b100 : ∀ x, x < 100 → P x := lst (n := 99) b99 a99
  have b101 : ∀ x, x < 101 → P x := lst (n := 100) b100 a100
  have b102 : ∀ x, x < 102 → P x := lst (n := 101) b101 a101
  have b103 : ∀ x, x < 103 → P x := lst (n := 102) b102 a102
  have b104 : ∀ x, x < 104 → P x := lst (n := 103) b103 a103
  have b105 : ∀ x, x < 105 → P x := lst (n := 104) b104 a104
  have b106 : ∀ x, x < 106 → P x := lst (n := 105) b105 a105
  have b107 : ∀ x, x < 107 → P x := lst (n := 106) b106 a106
  have b108 : ∀ x, x < 108 → P x := lst (n := 107) b107 a107
  have b109 : ∀ x, x < 109 → P x := lst (n := 108) b108 a108
  have b110 : ∀ x, x < 110 → P x := lst (n := 109) b109 a109
  have b111 : ∀ x, x < 111 → P x := lst (n := 110) b110 a110
  have b112 : ∀ x, x < 112 → P x := lst (n := 111) b111 a111
  have b113 : ∀ x, x < 113 → P x := lst (n := 112) b112 a112
  have b114 : ∀ x, x < 114 → P x := lst (n := 113) b113 a113
  have b115 : ∀ x, x < 115 → P x := lst (n := 114) b114 a114
  have b116 : ∀ x, x < 116 → P x := lst (n := 115) b115 a115
  have b117 : ∀ x, x < 117 → P x := lst (n := 116) b116 a116
  have b118 : ∀ x, x < 118 → P x := lst (n := 117) b117 a117
  have b119 : ∀ x, x < 119 → P x := lst (n := 118) b118 a118
  have b120 : ∀ x, x < 120 → P x := lst (n := 119) b119 a119
  have b121 : ∀ x, x < 121 → P x := lst (n := 120) b120 a120
  have b122 : ∀ x, x < 122 → P x := lst (n := 121) b121 a121
  have b123 : ∀ x, x < 123 → P x := lst (n := 122) b122 a122
  have b124 : ∀ x, x < 124 → P x := lst (n := 123) b123 a123
  have b125 : ∀ x, x < 125 → P x := lst (n := 124) b124 a124
  have b126 : ∀ x, x < 126 → P x := lst (n := 125) b125 a125
  have b127 : ∀ x, x < 127 → P x := lst (n := 126) b126 a126
  have b128 : ∀ x, x < 128 → P x := lst (n := 127) b127 a127
  have b129 : ∀ x, x < 129 → P x := lst (n := 128) b128 a128
  have b130 : ∀ x, x < 130 → P x := lst (n := 129) b129 a129
  have b131 : ∀ x, x < 131 → P x := lst (n := 130) b130 a130
  have b132 : ∀ x, x < 132 → P x := lst (n := 131) b131 a131
  have b133 : ∀ x, x < 133 → P x := lst (n := 132) b132 a132
  have b134 : ∀ x, x < 134 → P x := lst (n := 133) b133 a133
  have b135 : ∀ x, x < 135 → P x := lst (n := 134) b134 a134
  have b136 : ∀ x, x < 136 → P x := lst (n := 135) b135 a135
  have b137 : ∀ x, x < 137 → P x := lst (n := 136) b136 a136
  have b138 : ∀ x, x < 138 → P x := lst (n := 137) b137 a137
  have b139 : ∀ x, x < 139 → P x := lst (n := 138) b138 a138
  have b140 : ∀ x, x < 140 → P x := lst (n := 139) b139 a139
  have b141 : ∀ x, x < 141 → P x := lst (n := 140) b140 a140
  have b142 : ∀ x, x < 142 → P x := lst (n := 141) b141 a141
  have b143 : ∀ x, x < 143 → P x := lst (n := 142) b142 a142
  have b144 : ∀ x, x < 144 → P x := lst (n := 143) b143 a143
  have b145 : ∀ x, x < 145 → P x := lst (n := 144) b144 a144
  have b146 : ∀ x, x < 146 → P x := lst (n := 145) b145 a145
  have b147 : ∀ x, x < 147 → P x := lst (n := 146) b146 a146
  have b148 : ∀ x, x < 148 → P x := lst (n := 147) b147 a147
  have b149 : ∀ x, x < 149 → P x := lst (n := 148) b148 a148
  have b150 : ∀ x, x < 150 → P x := lst (n := 149) b149 a149
  have b151 : ∀ x, x < 151 → P x := lst (n := 150) b150 a150
  have b152 : ∀ x, x < 152 → P x := lst (n := 151) b151 a151
  have b153 : ∀ x, x < 153 → P x := lst (n := 152) b152 a152
  have b154 : ∀ x, x < 154 → P x := lst (n := 153) b153 a153
  have b155 : ∀ x, x < 155 → P x := lst (n := 154) b154 a154
  have b156 : ∀ x, x < 156 → P x := lst (n := 155) b155 a155
  have b157 : ∀ x, x < 157 → P x := lst (n := 156) b156 a156
  have b158 : ∀ x, x < 158 → P x := lst (n := 157) b157 a157
  have b159 : ∀ x, x < 159 → P x := lst (n := 158) b158 a158
  have b160 : ∀ x, x < 160 → P x := lst (n := 159) b159 a159
  have b161 : ∀ x, x < 161 → P x := lst (n := 160) b160 a160
  have b162 : ∀ x, x < 162 → P x := lst (n := 161) b161 a161
  have b163 : ∀ x, x < 163 → P x := lst (n := 162) b162 a162
  have b164 : ∀ x, x < 164 → P x := lst (n := 163) b163 a163
  have b165 : ∀ x, x < 165 → P x := lst (n := 164) b164 a164
  have b166 : ∀ x, x < 166 → P x := lst (n := 165) b165 a165
  have b167 : ∀ x, x < 167 → P x := lst (n := 166) b166 a166
  have b168 : ∀ x, x < 168 → P x := lst (n := 167) b167 a167
  have b169 : ∀ x, x < 169 → P x := lst (n := 168) b168 a168
  have b170 : ∀ x, x < 170 → P x := lst (n := 169) b169 a169
  have b171 : ∀ x, x < 171 → P x := lst (n := 170) b170 a170
  have b172 : ∀ x, x < 172 → P x := lst (n := 171) b171 a171
  have b173 : ∀ x, x < 173 → P x := lst (n := 172) b172 a172
  have b174 : ∀ x, x < 174 → P x := lst (n := 173) b173 a173
  have b175 : ∀ x, x < 175 → P x := lst (n := 174) b174 a174
  have b176 : ∀ x, x < 176 → P x := lst (n := 175) b175 a175
  have b177 : ∀ x, x < 177 → P x := lst (n := 176) b176 a176
  have b178 : ∀ x, x < 178 → P x := lst (n := 177) b177 a177
  have b179 : ∀ x, x < 179 → P x := lst (n := 178) b178 a178
  have b180 : ∀ x, x < 180 → P x := lst (n := 179) b179 a179
  have b181 : ∀ x, x < 181 → P x := lst (n := 180) b180 a180
  have b182 : ∀ x, x < 182 → P x := lst (n := 181) b181 a181
  have b183 : ∀ x, x < 183 → P x := lst (n := 182) b182 a182
  have b184 : ∀ x, x < 184 → P x := lst (n := 183) b183 a183
  have b185 : ∀ x, x < 185 → P x := lst (n := 184) b184 a184
  have b186 : ∀ x, x < 186 → P x := lst (n := 185) b185 a185
  have b187 : ∀ x, x < 187 → P x := lst (n := 186) b186 a186
  have b188 : ∀ x, x < 188 → P x := lst (n := 187) b187 a187
  have b189 : ∀ x, x < 189 → P x := lst (n := 188) b188 a188
  have b190 : ∀ x, x < 190 → P x := lst (n := 189) b189 a189
  have b191 : ∀ x, x < 191 → P x := lst (n := 190) b190 a190
  have b192 : ∀ x, x < 192 → P x := lst (n := 191) b191 a191
  have b193 : ∀ x, x < 193 → P x := lst (n := 192) b192 a192
  have b194 : ∀ x, x < 194 → P x := lst (n := 193) b193 a193
  have b195 : ∀ x, x < 195 → P x := lst (n := 194) b194 a194
  have b196 : ∀ x, x < 196 → P x := lst (n := 195) b195 a195
  have b197 : ∀ x, x < 197 → P x := lst (n := 196) b196 a196
  have b198 : ∀ x, x < 198 → P x := lst (n := 197) b197 a197
  have b199 : ∀ x, x < 199 → P x := lst (n := 198) b198 a198
  have b200 : ∀ x, x < 200 → P x := lst (n := 199) b199 a199
  have b201 : ∀ x, x < 201 → P x := lst (n := 200) b200 a200
  have b202 : ∀ x, x < 202 → P x := lst (n := 201) b201 a201
  have b203 : ∀ x, x < 203 → P x := lst (n := 202) b202 a202
  have b204 : ∀ x, x < 204 → P x := lst (n := 203) b203 a203
  have b205 : ∀ x, x < 205 → P x := lst (n := 204) b204 a204
  have b206 : ∀ x, x < 206 → P x := lst (n := 205) b205 a205
  have b207 : ∀ x, x < 207 → P x := lst (n := 206) b206 a206
  have b208 : ∀ x, x < 208 → P x := lst (n := 207) b207 a207
  have b209 : ∀ x, x < 209 → P x := lst (n := 208) b208 a208
  have b210 : ∀ x, x < 210 → P x := lst (n := 209) b209 a209
  have b211 : ∀ x, x < 211 → P x := lst (n := 210) b210 a210
  have b212 : ∀ x, x < 212 → P x := lst (n := 211) b211 a211
  have b213 : ∀ x, x < 213 → P x := lst (n := 212) b212 a212
  have b214 : ∀ x, x < 214 → P x := lst (n := 213) b213 a213
  have b215 : ∀ x, x < 215 → P x := lst (n := 214) b214 a214
  have b216 : ∀ x, x < 216 → P x := lst (n := 215) b215 a215
  have b217 : ∀ x, x < 217 → P x := lst (n := 216) b216 a216
  have b218 : ∀ x, x < 218 → P x := lst (n := 217) b217 a217
  have b219 : ∀ x, x < 219 → P x := lst (n := 218) b218 a218
  have b220 : ∀ x, x < 220 → P x := lst (n := 219) b219 a219
  have b221 : ∀ x, x < 221 → P x := lst (n := 220) b220 a220
  have b222 : ∀ x, x < 222 → P x := lst (n := 221) b221 a221
  have b223 : ∀ x, x < 223 → P x := lst (n := 222) b222 a222
  have b224 : ∀ x, x < 224 → P x := lst (n := 223) b223 a223
  have b225 : ∀ x, x < 225 → P x := lst (n := 224) b224 a224
  have b226 : ∀ x, x < 226 → P x := lst (n := 225) b225 a225
  have b227 : ∀ x, x < 227 → P x := lst (n := 226) b226 a226
  have b228 : ∀ x, x < 228 → P x := lst (n := 227) b227 a227
  have b229 : ∀ x, x < 229 → P x := lst (n := 228) b228 a228
  have b230 : ∀ x, x < 230 → P x := lst (n := 229) b229 a229
  have b231 : ∀ x, x < 231 → P x := lst (n := 230) b230 a230
  have b232 : ∀ x, x < 232 → P x := lst (n := 231) b231 a231
  have b233 : ∀ x, x < 233 → P x := lst (n := 232) b232 a232
  have b234 : ∀ x, x < 234 → P x := lst (n := 233) b233 a233
  have b235 : ∀ x, x < 235 → P x := lst (n := 234) b234 a234
  have b236 : ∀ x, x < 236 → P x := lst (n := 235) b235 a235
  have b237 : ∀ x, x < 237 → P x := lst (n := 236) b236 a236
  have b238 : ∀ x, x < 238 → P x := lst (n := 237) b237 a237
  have b239 : ∀ x, x < 239 → P x := lst (n := 238) b238 a238
  have b240 : ∀ x, x < 240 → P x := lst (n := 239) b239 a239
  have b241 : ∀ x, x < 241 → P x := lst (n := 240) b240 a240
  have b242 : ∀ x, x < 242 → P x := lst (n := 241) b241 a241
  have b243 : ∀ x, x < 243 → P x := lst (n := 242) b242 a242
  have b244 : ∀ x, x < 244 → P x := lst (n := 243) b243 a243
  have b245 : ∀ x, x < 245 → P x := lst (n := 244) b244 a244
  have b246 : ∀ x, x < 246 → P x := lst (n := 245) b245 a245
  have b247 : ∀ x, x < 247 → P x := lst (n := 246) b246 a246
  have b248 : ∀ x, x < 248 → P x := lst (n := 247) b247 a247
  have b249 : ∀ x, x < 249 → P x := lst (n := 248) b248 a248
  have b250 : ∀ x, x < 250 → P x := lst (n := 249) b249 a249
  have b251 : ∀ x, x < 251 → P x := lst (n := 250) b250 a250
  have b252 : ∀ x, x < 252 → P x := lst (n := 251) b251 a251
  have b253 : ∀ x, x < 253 → P x := lst (n := 252) b252 a252
  have b254 : ∀ x, x < 254 → P x := lst (n := 253) b253 a253
  have b255 : ∀ x, x < 255 → P x := lst (n := 254) b254 a254
  have b256 : ∀ x, x < 256 → P x := lst (n := 255) b255 a255
  exact b256
theorem rd_bindP {c m : ByteArray} {k p : Nat} {α β : Type} {r r' : Jvm.ClassFile.Decoder α} {f f' : α → Jvm.ClassFile.Decoder β} {P : α → Prop} (hP : ∀ x n, Jvm.ClassFile.Reader.runAt r m p = .ok (x, n) → P x) (h : RSd c m k r r') (g : ∀ x, P x → RSd c m k (f x) (f' x)) : ∀ (y : β) (n : Nat), Jvm.ClassFile.Reader.runAt (r >>= f) m p = .ok (y, n) → Jvm.ClassFile.Reader.runAt (r' >>= f') c (k + p) = .ok (y, k + n) := by
  intro y n e
  rw [rd_bindAt] at e ⊢
  cases hr : Jvm.ClassFile.Reader.runAt r m p with
  | error z => rw [hr] at e; exact (er_ok (ε := Jvm.ClassFile.DecodeError) (z := z) (x := (y, n)) e).elim
  | ok q =>
    rw [hr] at e
    rw [h p q.1 q.2 hr]
    exact g q.1 (hP q.1 q.2 hr) q.2 y n e
set_option maxHeartbeats 4000000 in
set_option maxRecDepth 8000 in
theorem rd_instr {c m : ByteArray} {k i p : Nat} (hc : CK c k m) (hp : p < m.size) (ho : okop (m[p]'hp).toNat = true) : ∀ (y : Jvm.ClassFile.Instr) (n : Nat), Jvm.ClassFile.Reader.runAt (Jvm.ClassFile.Decoder.instr i) m p = .ok (y, n) → Jvm.ClassFile.Reader.runAt (Jvm.ClassFile.Decoder.instr (k + i)) c (k + p) = .ok (y, k + n) := by
  unfold Jvm.ClassFile.Decoder.instr
  refine rd_bindP (P := fun x => x < 256 ∧ okop x = true) (fun x n h => ?_) (rd_u1 hc) (fun op h => ?_)
  · rw [rd_u1At hp] at h
    have e2 := ok_inj h
    cases e2
    exact ⟨UInt8.toNat_lt _, ho⟩
  obtain ⟨h1, h2⟩ := h
  revert h2
  revert h1
  revert op
  refine lt_all ?_ ?_ ?_ ?_ ?_ ?_ ?_ ?_ ?_ ?_ ?_ ?_ ?_ ?_ ?_ ?_ ?_ ?_ ?_ ?_ ?_ ?_ ?_ ?_ ?_ ?_ ?_ ?_ ?_ ?_ ?_ ?_ ?_ ?_ ?_ ?_ ?_ ?_ ?_ ?_ ?_ ?_ ?_ ?_ ?_ ?_ ?_ ?_ ?_ ?_ ?_ ?_ ?_ ?_ ?_ ?_ ?_ ?_ ?_ ?_ ?_ ?_ ?_ ?_ ?_ ?_ ?_ ?_ ?_ ?_ ?_ ?_ ?_ ?_ ?_ ?_ ?_ ?_ ?_ ?_ ?_ ?_ ?_ ?_ ?_ ?_ ?_ ?_ ?_ ?_ ?_ ?_ ?_ ?_ ?_ ?_ ?_ ?_ ?_ ?_ ?_ ?_ ?_ ?_ ?_ ?_ ?_ ?_ ?_ ?_ ?_ ?_ ?_ ?_ ?_ ?_ ?_ ?_ ?_ ?_ ?_ ?_ ?_ ?_ ?_ ?_ ?_ ?_ ?_ ?_ ?_ ?_ ?_ ?_ ?_ ?_ ?_ ?_ ?_ ?_ ?_ ?_ ?_ ?_ ?_ ?_ ?_ ?_ ?_ ?_ ?_ ?_ ?_ ?_ ?_ ?_ ?_ ?_ ?_ ?_ ?_ ?_ ?_ ?_ ?_ ?_ ?_ ?_ ?_ ?_ ?_ ?_ ?_ ?_ ?_ ?_ ?_ ?_ ?_ ?_ ?_ ?_ ?_ ?_ ?_ ?_ ?_ ?_ ?_ ?_ ?_ ?_ ?_ ?_ ?_ ?_ ?_ ?_ ?_ ?_ ?_ ?_ ?_ ?_ ?_ ?_ ?_ ?_ ?_ ?_ ?_ ?_ ?_ ?_ ?_ ?_ ?_ ?_ ?_ ?_ ?_ ?_ ?_ ?_ ?_ ?_ ?_ ?_ ?_ ?_ ?_ ?_ ?_ ?_ ?_ ?_ ?_ ?_ ?_ ?_ ?_ ?_ ?_ ?_ ?_ ?_ ?_ ?_ ?_ ?_ ?_ ?_ ?_ ?_ ?_ ?_ 
  · exact fun h2 => rd_pure
  · exact fun h2 => rd_pure
  · exact fun h2 => rd_pure
  · exact fun h2 => rd_pure
  · exact fun h2 => rd_pure
  · exact fun h2 => rd_pure
  · exact fun h2 => rd_pure
  · exact fun h2 => rd_pure
  · exact fun h2 => rd_pure
  · exact fun h2 => rd_pure
  · exact fun h2 => rd_pure
  · exact fun h2 => rd_pure
  · exact fun h2 => rd_pure
  · exact fun h2 => rd_pure
  · exact fun h2 => rd_pure
  · exact fun h2 => rd_pure
  · exact fun h2 => rd_bind (rd_s1 hc) (fun _ => rd_pure)
  · exact fun h2 => rd_bind (rd_s2 hc) (fun _ => rd_pure)
  · exact fun h2 => rd_bind (rd_u1 hc) (fun _ => rd_pure)
  · exact fun h2 => rd_bind (rd_u2 hc) (fun _ => rd_pure)
  · exact fun h2 => rd_bind (rd_u2 hc) (fun _ => rd_pure)
  · exact fun h2 => rd_bind (rd_u1 hc) (fun _ => rd_pure)
  · exact fun h2 => rd_bind (rd_u1 hc) (fun _ => rd_pure)
  · exact fun h2 => rd_bind (rd_u1 hc) (fun _ => rd_pure)
  · exact fun h2 => rd_bind (rd_u1 hc) (fun _ => rd_pure)
  · exact fun h2 => rd_bind (rd_u1 hc) (fun _ => rd_pure)
  · exact fun h2 => rd_pure
  · exact fun h2 => rd_pure
  · exact fun h2 => rd_pure
  · exact fun h2 => rd_pure
  · exact fun h2 => rd_pure
  · exact fun h2 => rd_pure
  · exact fun h2 => rd_pure
  · exact fun h2 => rd_pure
  · exact fun h2 => rd_pure
  · exact fun h2 => rd_pure
  · exact fun h2 => rd_pure
  · exact fun h2 => rd_pure
  · exact fun h2 => rd_pure
  · exact fun h2 => rd_pure
  · exact fun h2 => rd_pure
  · exact fun h2 => rd_pure
  · exact fun h2 => rd_pure
  · exact fun h2 => rd_pure
  · exact fun h2 => rd_pure
  · exact fun h2 => rd_pure
  · exact fun h2 => rd_pure
  · exact fun h2 => rd_pure
  · exact fun h2 => rd_pure
  · exact fun h2 => rd_pure
  · exact fun h2 => rd_pure
  · exact fun h2 => rd_pure
  · exact fun h2 => rd_pure
  · exact fun h2 => rd_pure
  · exact fun h2 => rd_bind (rd_u1 hc) (fun _ => rd_pure)
  · exact fun h2 => rd_bind (rd_u1 hc) (fun _ => rd_pure)
  · exact fun h2 => rd_bind (rd_u1 hc) (fun _ => rd_pure)
  · exact fun h2 => rd_bind (rd_u1 hc) (fun _ => rd_pure)
  · exact fun h2 => rd_bind (rd_u1 hc) (fun _ => rd_pure)
  · exact fun h2 => rd_pure
  · exact fun h2 => rd_pure
  · exact fun h2 => rd_pure
  · exact fun h2 => rd_pure
  · exact fun h2 => rd_pure
  · exact fun h2 => rd_pure
  · exact fun h2 => rd_pure
  · exact fun h2 => rd_pure
  · exact fun h2 => rd_pure
  · exact fun h2 => rd_pure
  · exact fun h2 => rd_pure
  · exact fun h2 => rd_pure
  · exact fun h2 => rd_pure
  · exact fun h2 => rd_pure
  · exact fun h2 => rd_pure
  · exact fun h2 => rd_pure
  · exact fun h2 => rd_pure
  · exact fun h2 => rd_pure
  · exact fun h2 => rd_pure
  · exact fun h2 => rd_pure
  · exact fun h2 => rd_pure
  · exact fun h2 => rd_pure
  · exact fun h2 => rd_pure
  · exact fun h2 => rd_pure
  · exact fun h2 => rd_pure
  · exact fun h2 => rd_pure
  · exact fun h2 => rd_pure
  · exact fun h2 => rd_pure
  · exact fun h2 => rd_pure
  · exact fun h2 => rd_pure
  · exact fun h2 => rd_pure
  · exact fun h2 => rd_pure
  · exact fun h2 => rd_pure
  · exact fun h2 => rd_pure
  · exact fun h2 => rd_pure
  · exact fun h2 => rd_pure
  · exact fun h2 => rd_pure
  · exact fun h2 => rd_pure
  · exact fun h2 => rd_pure
  · exact fun h2 => rd_pure
  · exact fun h2 => rd_pure
  · exact fun h2 => rd_pure
  · exact fun h2 => rd_pure
  · exact fun h2 => rd_pure
  · exact fun h2 => rd_pure
  · exact fun h2 => rd_pure
  · exact fun h2 => rd_pure
  · exact fun h2 => rd_pure
  · exact fun h2 => rd_pure
  · exact fun h2 => rd_pure
  · exact fun h2 => rd_pure
  · exact fun h2 => rd_pure
  · exact fun h2 => rd_pure
  · exact fun h2 => rd_pure
  · exact fun h2 => rd_pure
  · exact fun h2 => rd_pure
  · exact fun h2 => rd_pure
  · exact fun h2 => rd_pure
  · exact fun h2 => rd_pure
  · exact fun h2 => rd_pure
  · exact fun h2 => rd_pure
  · exact fun h2 => rd_pure
  · exact fun h2 => rd_pure
  · exact fun h2 => rd_pure
  · exact fun h2 => rd_pure
  · exact fun h2 => rd_pure
  · exact fun h2 => rd_pure
  · exact fun h2 => rd_pure
  · exact fun h2 => rd_pure
  · exact fun h2 => rd_pure
  · exact fun h2 => rd_pure
  · exact fun h2 => rd_pure
  · exact fun h2 => rd_pure
  · exact fun h2 => rd_bind (rd_u1 hc) (fun _ => rd_bind (rd_s1 hc) (fun _ => rd_pure))
  · exact fun h2 => rd_pure
  · exact fun h2 => rd_pure
  · exact fun h2 => rd_pure
  · exact fun h2 => rd_pure
  · exact fun h2 => rd_pure
  · exact fun h2 => rd_pure
  · exact fun h2 => rd_pure
  · exact fun h2 => rd_pure
  · exact fun h2 => rd_pure
  · exact fun h2 => rd_pure
  · exact fun h2 => rd_pure
  · exact fun h2 => rd_pure
  · exact fun h2 => rd_pure
  · exact fun h2 => rd_pure
  · exact fun h2 => rd_pure
  · exact fun h2 => rd_pure
  · exact fun h2 => rd_pure
  · exact fun h2 => rd_pure
  · exact fun h2 => rd_pure
  · exact fun h2 => rd_pure
  · exact fun h2 => rd_bind (rd_s2 hc) (fun _ => rd_pure)
  · exact fun h2 => rd_bind (rd_s2 hc) (fun _ => rd_pure)
  · exact fun h2 => rd_bind (rd_s2 hc) (fun _ => rd_pure)
  · exact fun h2 => rd_bind (rd_s2 hc) (fun _ => rd_pure)
  · exact fun h2 => rd_bind (rd_s2 hc) (fun _ => rd_pure)
  · exact fun h2 => rd_bind (rd_s2 hc) (fun _ => rd_pure)
  · exact fun h2 => rd_bind (rd_s2 hc) (fun _ => rd_pure)
  · exact fun h2 => rd_bind (rd_s2 hc) (fun _ => rd_pure)
  · exact fun h2 => rd_bind (rd_s2 hc) (fun _ => rd_pure)
  · exact fun h2 => rd_bind (rd_s2 hc) (fun _ => rd_pure)
  · exact fun h2 => rd_bind (rd_s2 hc) (fun _ => rd_pure)
  · exact fun h2 => rd_bind (rd_s2 hc) (fun _ => rd_pure)
  · exact fun h2 => rd_bind (rd_s2 hc) (fun _ => rd_pure)
  · exact fun h2 => rd_bind (rd_s2 hc) (fun _ => rd_pure)
  · exact fun h2 => rd_bind (rd_s2 hc) (fun _ => rd_pure)
  · exact fun h2 => rd_bind (rd_s2 hc) (fun _ => rd_pure)
  · exact fun h2 => rd_bind (rd_u1 hc) (fun _ => rd_pure)
  · exact fun h2 => absurd h2 (by decide)
  · exact fun h2 => absurd h2 (by decide)
  · exact fun h2 => rd_pure
  · exact fun h2 => rd_pure
  · exact fun h2 => rd_pure
  · exact fun h2 => rd_pure
  · exact fun h2 => rd_pure
  · exact fun h2 => rd_pure
  · exact fun h2 => rd_bind (rd_u2 hc) (fun _ => rd_pure)
  · exact fun h2 => rd_bind (rd_u2 hc) (fun _ => rd_pure)
  · exact fun h2 => rd_bind (rd_u2 hc) (fun _ => rd_pure)
  · exact fun h2 => rd_bind (rd_u2 hc) (fun _ => rd_pure)
  · exact fun h2 => rd_bind (rd_u2 hc) (fun _ => rd_pure)
  · exact fun h2 => rd_bind (rd_u2 hc) (fun _ => rd_pure)
  · exact fun h2 => rd_bind (rd_u2 hc) (fun _ => rd_pure)
  · exact fun h2 => absurd h2 (by decide)
  · exact fun h2 => absurd h2 (by decide)
  · exact fun h2 => rd_bind (rd_u2 hc) (fun _ => rd_pure)
  · exact fun h2 => absurd h2 (by decide)
  · exact fun h2 => rd_bind (rd_u2 hc) (fun _ => rd_pure)
  · exact fun h2 => rd_pure
  · exact fun h2 => rd_pure
  · exact fun h2 => rd_bind (rd_u2 hc) (fun _ => rd_pure)
  · exact fun h2 => rd_bind (rd_u2 hc) (fun _ => rd_pure)
  · exact fun h2 => rd_pure
  · exact fun h2 => rd_pure
  · exact fun h2 => absurd h2 (by decide)
  · exact fun h2 => absurd h2 (by decide)
  · exact fun h2 => rd_bind (rd_s2 hc) (fun _ => rd_pure)
  · exact fun h2 => rd_bind (rd_s2 hc) (fun _ => rd_pure)
  · exact fun h2 => rd_bind (rd_s4 hc) (fun _ => rd_pure)
  · exact fun h2 => rd_bind (rd_s4 hc) (fun _ => rd_pure)
  · exact fun h2 => rd_throw
  · exact fun h2 => rd_throw
  · exact fun h2 => rd_throw
  · exact fun h2 => rd_throw
  · exact fun h2 => rd_throw
  · exact fun h2 => rd_throw
  · exact fun h2 => rd_throw
  · exact fun h2 => rd_throw
  · exact fun h2 => rd_throw
  · exact fun h2 => rd_throw
  · exact fun h2 => rd_throw
  · exact fun h2 => rd_throw
  · exact fun h2 => rd_throw
  · exact fun h2 => rd_throw
  · exact fun h2 => rd_throw
  · exact fun h2 => rd_throw
  · exact fun h2 => rd_throw
  · exact fun h2 => rd_throw
  · exact fun h2 => rd_throw
  · exact fun h2 => rd_throw
  · exact fun h2 => rd_throw
  · exact fun h2 => rd_throw
  · exact fun h2 => rd_throw
  · exact fun h2 => rd_throw
  · exact fun h2 => rd_throw
  · exact fun h2 => rd_throw
  · exact fun h2 => rd_throw
  · exact fun h2 => rd_throw
  · exact fun h2 => rd_throw
  · exact fun h2 => rd_throw
  · exact fun h2 => rd_throw
  · exact fun h2 => rd_throw
  · exact fun h2 => rd_throw
  · exact fun h2 => rd_throw
  · exact fun h2 => rd_throw
  · exact fun h2 => rd_throw
  · exact fun h2 => rd_throw
  · exact fun h2 => rd_throw
  · exact fun h2 => rd_throw
  · exact fun h2 => rd_throw
  · exact fun h2 => rd_throw
  · exact fun h2 => rd_throw
  · exact fun h2 => rd_throw
  · exact fun h2 => rd_throw
  · exact fun h2 => rd_throw
  · exact fun h2 => rd_throw
  · exact fun h2 => rd_throw
  · exact fun h2 => rd_throw
  · exact fun h2 => rd_throw
  · exact fun h2 => rd_throw
  · exact fun h2 => rd_throw
  · exact fun h2 => rd_throw
  · exact fun h2 => rd_throw
  · exact fun h2 => rd_throw
theorem rd_chunk {c m : ByteArray} {k i : Nat} {r : Jvm.ClassFile.Instr × Nat} (hc : CK c k m) (h : (match m.data.toList[i]? with | some b => okop b.toNat | none => false) = true ∧ decode m i = .ok r) : decode c (k + i) = .ok r := by
  obtain ⟨ho, h⟩ := h
  have hi : i < m.size := by
    refine Nat.lt_of_not_le (fun q => ?_)
    rw [List.getElem?_eq_none (show m.data.toList.length ≤ i from q)] at ho
    exact absurd ho (by decide)
  rw [List.getElem?_eq_getElem (show i < m.data.toList.length from hi)] at ho
  have hd : ∀ (d : ByteArray) (p : Nat), decode d p = Except.bind (Jvm.ClassFile.Reader.runAt (Jvm.ClassFile.Decoder.instr p) d p) (fun q => .ok (q.1, q.2 - p)) := fun _ _ => rfl
  rw [hd] at h ⊢
  cases hr : Jvm.ClassFile.Reader.runAt (Jvm.ClassFile.Decoder.instr i) m i with
  | error z => rw [hr] at h; exact (er_ok (ε := Jvm.ClassFile.DecodeError) (z := z) (x := r) h).elim
  | ok q =>
    rw [hr] at h
    rw [rd_instr (i := i) hc hi ho q.1 q.2 hr]
    have e2 : (q.1, q.2 - i) = r := ok_inj (ε := Jvm.ClassFile.DecodeError) h
    rw [← e2]
    show (Except.ok (q.1, k + q.2 - (k + i)) : Except Jvm.ClassFile.DecodeError (Jvm.ClassFile.Instr × Nat)) = .ok (q.1, q.2 - i)
    rw [Nat.add_sub_add_left]
end
