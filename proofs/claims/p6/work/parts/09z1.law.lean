/-! THE CLAIM OUT OF ONE WALK OF THE LAW'S BODY. Your part is whole_start (and what it stands on); all else here is the same for every law, but numbers. -/
def R_law : String := "StairsInStepsLaw"
def lw_P (b : Addr) (xs : List Int32) (args : Array Value) (s : State) : Prop := args = #[.ref b] ∧ s.IntsAt b xs ∧ xs.length ≤ 3072 ∧ (Jvm.Cond.and given_1 narrow_1).before args s = true
def lw_Q (_ : Array Value) (s : State) (o : Outcome) (t : State) : Prop := o = .returned (some (.int 1)) ∧ Framed s o t [] 601024 7293034
def lw_Z (below : List Frame) (a : Array Value) (s : State) : State → Prop := fun t => ∃ o, t.status = .running ∧ Ended t below o ∧ lw_Q a s o t
/-- the law's own end, with 1 on the stack, nothing written that was there before, its room as the claim has it -/
theorem lw_ret {p : Program} {l : Launch} {e : Env} {s : State} {m : MethodId} {below : List Frame} {meth : Method} {c : Code} {b : Nat} (hx : p.tables.exec = Jvm.exec) (hb : c.code = code) (hr : meth.sig.returnType = ret) (hlocks : meth.locks = false) {pc : Nat} {H : Heap} {ls : Array Slot} (hdg : decode code pc = .ok (.ireturn, 1)) : W p l e room_1 s m #[Value.ref b] below meth c H [] 601024 7293034 (lw_Z below #[Value.ref b] s) (F0 m pc ls [.int 1]) := by
  intro T hT X
  obtain ⟨fs, hret, hrun, hended, hW, hframe⟩ := X.leave (v := some (.int 1)) (hlocks := hlocks) (fun h => by rw [hr] at h; cases h)
  have hmeth' : T.vm.method? m = some meth := X.method'
  refine ⟨T.setFrames fs, ?_, .returned (some (.int 1)), hrun, hended, rfl, ⟨_, rfl⟩, hW, hframe⟩
  jvm_step X.here [X.here.top, hx, hb, hdg, hmeth', hr, ret, narrow_b1]
  (try refine ⟨rfl, ?_⟩); (try refine ⟨rfl, ?_⟩)
  first | (intro acts; rw [hret _ acts rfl rfl rfl]) | rw [hret _ _ rfl rfl rfl]
  exact Steps.refl _
/-- what holds at the law's entry: the machine, the code, the tables' words (any of lw_tbl by 'hts w (by decide +kernel)'), the script of L ints xs at the cell b, what the Statement gives of the start (any of its parts by flat_of_before) -/
def lw_At (p : Program) (s : State) (m : MethodId) (meth : Method) (c : Code) (b L : Nat) (xs : Nat → Int32) : Prop :=
  p.tables.exec = Jvm.exec ∧ c.code = code ∧ meth.sig.returnType = ret ∧ c.maxLocals = 8 ∧ s.vm.findClass R_law = some m.cls ∧ (∀ w ∈ lw_tbl, w.before #[Value.ref b] s = true) ∧ va_X b L xs s s.heap ∧ b < s.heap.size ∧ meth.locks = false ∧ (Jvm.Cond.and given_1 narrow_1).before #[Value.ref b] s = true
set_option maxRecDepth 100000 in
theorem jnest_in : ∀ w ∈ jnest, w ∈ lw_tbl := by
  unfold jnest
  exact List.forall_mem_cons.mpr ⟨mt_1 (List.mem_of_getElem? (i := 43) rfl), List.forall_mem_cons.mpr ⟨mt_1 (List.mem_of_getElem? (i := 44) rfl), List.forall_mem_cons.mpr ⟨mt_1 (List.mem_of_getElem? (i := 45) rfl), List.forall_mem_cons.mpr ⟨mt_1 (List.mem_of_getElem? (i := 59) rfl), List.forall_mem_cons.mpr ⟨mt_1 (List.mem_of_getElem? (i := 61) rfl), List.forall_mem_cons.mpr ⟨mt_1 (List.mem_of_getElem? (i := 63) rfl), List.forall_mem_cons.mpr ⟨mt_1 (List.mem_of_getElem? (i := 65) rfl), List.forall_mem_cons.mpr ⟨mt_1 (List.mem_of_getElem? (i := 67) rfl), List.forall_mem_cons.mpr ⟨mt_1 (List.mem_of_getElem? (i := 69) rfl), List.forall_mem_cons.mpr ⟨mt_1 (List.mem_of_getElem? (i := 106) rfl), List.forall_mem_cons.mpr ⟨mt_1 (List.mem_of_getElem? (i := 111) rfl), List.forall_mem_cons.mpr ⟨mt_1 (List.mem_of_getElem? (i := 158) rfl), List.forall_mem_cons.mpr ⟨mt_1 (List.mem_of_getElem? (i := 160) rfl), List.forall_mem_cons.mpr ⟨mt_1 (List.mem_of_getElem? (i := 161) rfl), List.forall_mem_cons.mpr ⟨mt_1 (List.mem_of_getElem? (i := 163) rfl), List.forall_mem_cons.mpr ⟨mt_1 (List.mem_of_getElem? (i := 164) rfl), List.forall_mem_cons.mpr ⟨mt_1 (List.mem_of_getElem? (i := 165) rfl), List.forall_mem_cons.mpr ⟨mt_1 (List.mem_of_getElem? (i := 167) rfl), List.forall_mem_cons.mpr ⟨mt_1 (List.mem_of_getElem? (i := 169) rfl), List.forall_mem_cons.mpr ⟨mt_1 (List.mem_of_getElem? (i := 170) rfl), List.forall_mem_cons.mpr ⟨mt_1 (List.mem_of_getElem? (i := 171) rfl), List.forall_mem_cons.mpr ⟨mt_1 (List.mem_of_getElem? (i := 174) rfl), List.forall_mem_cons.mpr ⟨mt_1 (List.mem_of_getElem? (i := 176) rfl), List.forall_mem_cons.mpr ⟨mt_1 (List.mem_of_getElem? (i := 179) rfl), List.forall_mem_cons.mpr ⟨mt_1 (List.mem_of_getElem? (i := 180) rfl), List.forall_mem_cons.mpr ⟨mt_1 (List.mem_of_getElem? (i := 215) rfl), List.forall_mem_cons.mpr ⟨mt_1 (List.mem_of_getElem? (i := 220) rfl), List.forall_mem_cons.mpr ⟨mt_1 (List.mem_of_getElem? (i := 222) rfl), List.forall_mem_cons.mpr ⟨mt_2 (List.mem_of_getElem? (i := 24) rfl), List.forall_mem_cons.mpr ⟨mt_2 (List.mem_of_getElem? (i := 50) rfl), List.forall_mem_cons.mpr ⟨mt_2 (List.mem_of_getElem? (i := 68) rfl), List.forall_mem_cons.mpr ⟨mt_2 (List.mem_of_getElem? (i := 71) rfl), List.forall_mem_cons.mpr ⟨mt_2 (List.mem_of_getElem? (i := 75) rfl), List.forall_mem_cons.mpr ⟨mt_2 (List.mem_of_getElem? (i := 77) rfl), List.forall_mem_cons.mpr ⟨mt_3 (List.mem_of_getElem? (i := 212) rfl), List.forall_mem_cons.mpr ⟨mt_3 (List.mem_of_getElem? (i := 214) rfl), List.forall_mem_cons.mpr ⟨mt_3 (List.mem_of_getElem? (i := 216) rfl), List.forall_mem_cons.mpr ⟨mt_3 (List.mem_of_getElem? (i := 218) rfl), List.forall_mem_cons.mpr ⟨mt_3 (List.mem_of_getElem? (i := 221) rfl), List.forall_mem_cons.mpr ⟨mt_3 (List.mem_of_getElem? (i := 223) rfl), List.forall_mem_cons.mpr ⟨mt_3 (List.mem_of_getElem? (i := 232) rfl), List.forall_mem_cons.mpr ⟨mt_4 (List.mem_of_getElem? (i := 27) rfl), List.forall_mem_cons.mpr ⟨mt_4 (List.mem_of_getElem? (i := 29) rfl), List.forall_mem_cons.mpr ⟨mt_4 (List.mem_of_getElem? (i := 31) rfl), List.forall_mem_cons.mpr ⟨mt_4 (List.mem_of_getElem? (i := 33) rfl), List.forall_mem_cons.mpr ⟨mt_4 (List.mem_of_getElem? (i := 35) rfl), List.forall_mem_cons.mpr ⟨mt_4 (List.mem_of_getElem? (i := 37) rfl), List.forall_mem_cons.mpr ⟨mt_4 (List.mem_of_getElem? (i := 38) rfl), List.forall_mem_cons.mpr ⟨mt_4 (List.mem_of_getElem? (i := 40) rfl), List.forall_mem_cons.mpr ⟨mt_4 (List.mem_of_getElem? (i := 41) rfl), List.forall_mem_cons.mpr ⟨mt_4 (List.mem_of_getElem? (i := 43) rfl), List.forall_mem_cons.mpr ⟨mt_4 (List.mem_of_getElem? (i := 44) rfl), List.forall_mem_cons.mpr ⟨mt_4 (List.mem_of_getElem? (i := 46) rfl), List.forall_mem_cons.mpr ⟨mt_1 (List.mem_of_getElem? (i := 37) rfl), List.forall_mem_cons.mpr ⟨mt_1 (List.mem_of_getElem? (i := 54) rfl), List.forall_mem_cons.mpr ⟨mt_1 (List.mem_of_getElem? (i := 95) rfl), List.forall_mem_cons.mpr ⟨mt_1 (List.mem_of_getElem? (i := 101) rfl), List.forall_mem_cons.mpr ⟨mt_1 (List.mem_of_getElem? (i := 125) rfl), List.forall_mem_cons.mpr ⟨mt_1 (List.mem_of_getElem? (i := 207) rfl), List.forall_mem_cons.mpr ⟨mt_2 (List.mem_of_getElem? (i := 4) rfl), List.forall_mem_cons.mpr ⟨mt_2 (List.mem_of_getElem? (i := 10) rfl), List.forall_mem_cons.mpr ⟨mt_2 (List.mem_of_getElem? (i := 60) rfl), List.forall_mem_cons.mpr ⟨mt_2 (List.mem_of_getElem? (i := 210) rfl), List.forall_mem_cons.mpr ⟨mt_3 (List.mem_of_getElem? (i := 3) rfl), List.forall_mem_cons.mpr ⟨mt_3 (List.mem_of_getElem? (i := 188) rfl), List.forall_mem_cons.mpr ⟨mt_3 (List.mem_of_getElem? (i := 209) rfl), List.forall_mem_cons.mpr ⟨mt_5 (List.mem_of_getElem? (i := 13) rfl), List.forall_mem_cons.mpr ⟨mt_5 (List.mem_of_getElem? (i := 33) rfl), List.forall_mem_cons.mpr ⟨mt_5 (List.mem_of_getElem? (i := 36) rfl), List.forall_mem_cons.mpr ⟨mt_5 (List.mem_of_getElem? (i := 85) rfl), List.forall_mem_cons.mpr ⟨mt_5 (List.mem_of_getElem? (i := 96) rfl), List.forall_mem_cons.mpr ⟨mt_5 (List.mem_of_getElem? (i := 97) rfl), List.forall_mem_cons.mpr ⟨mt_5 (List.mem_of_getElem? (i := 219) rfl), List.forall_mem_cons.mpr ⟨mt_5 (List.mem_of_getElem? (i := 222) rfl), List.forall_mem_cons.mpr ⟨mt_6 (List.mem_of_getElem? (i := 121) rfl), fun _ h => absurd h List.not_mem_nil⟩⟩⟩⟩⟩⟩⟩⟩⟩⟩⟩⟩⟩⟩⟩⟩⟩⟩⟩⟩⟩⟩⟩⟩⟩⟩⟩⟩⟩⟩⟩⟩⟩⟩⟩⟩⟩⟩⟩⟩⟩⟩⟩⟩⟩⟩⟩⟩⟩⟩⟩⟩⟩⟩⟩⟩⟩⟩⟩⟩⟩⟩⟩⟩⟩⟩⟩⟩⟩⟩⟩⟩⟩⟩⟩
/-- the law answers true -/
def jRL : jRt := fun v _ _ _ => v = some (.int 1)
/-- the empty pool -/
def jZe : jZ := ([], fun _ => 0, fun _ => 0, fun _ _ => none)
theorem law_end {s t : State} {below : List Frame} {b : Nat} {D : va_G} {cy : jC} (h : MQ below (jQ D cy jRL (fun q => s.heap.size ≤ q)) #[Value.ref b] s room_1.cells room_1.slots (fun q => s.heap.size ≤ q) t) : lw_Z below #[Value.ref b] s t := by
  obtain ⟨o, h1, h2, ⟨⟨v, Z, I, L, h3, h4, -⟩, -⟩, Lo, ⟨hv, hW, hs⟩, hL⟩ := h
  have h4 : v = some (.int 1) := h4
  subst h4
  exact ⟨o, h1, h2, h3, hv, hW, State.sameButNew.drop_fresh (L := []) (J := Lo) hs hL⟩
set_option maxHeartbeats 4000000 in
set_option maxRecDepth 100000 in
/-- the law's entry: an empty pool -/
theorem law_in {p : Program} {e : Env} {s : State} {m : MethodId} {below : List Frame} {meth : Method} {c : Code} (l : Launch) {b Ls : Nat} {xs : Nat → Int32} (C0 : lw_At p s m meth c b Ls xs)
    (h : ∀ G : jG, gL G = l → gS G = s → gX G = [] → gA G = (fun q => s.heap.size ≤ q) → jE G code R_law (Cond.arrayClass .byte :: jT) 8 ret room_1 jRL → jJ G 8 0 [(0, .ref b)] [] jZe (fun _ _ => 0) (fun _ _ => 0) 0 0) :
    W p l e room_1 s m #[Value.ref b] below meth c s.heap [] 0 0 (lw_Z below #[Value.ref b] s) (entryFrame m ([Value.ref b] : List Value).toArray 8) := by
  obtain ⟨hx, hb, hr, hml, hown, hts, hX, hbl, hlocks, hgv⟩ := id C0
  have hj : ∀ w ∈ jT, w.before #[Value.ref b] s = true := fun w hw => hts w (List.mem_filter.mp hw).1
  obtain ⟨c0, i0, k0⟩ := u_known (C := RX0) (T := TX0) (N := 3) (n := 3) hj iT_0 (hj _ (jT_mem (mt_2 (List.mem_of_getElem? (i := 3) rfl)) rfl))
  obtain ⟨c1, i1, k1⟩ := u_known (C := RX1) (T := TX1) (N := 10) (n := 10) hj iT_1 (hj _ (jT_mem (mt_2 (List.mem_of_getElem? (i := 59) rfl)) rfl))
  obtain ⟨c2, i2, k2⟩ := u_known (C := RX2) (T := TX2) (N := 9) (n := 9) hj iT_2 (hj _ (jT_mem (mt_1 (List.mem_of_getElem? (i := 206) rfl)) rfl))
  obtain ⟨c3, i3, k3⟩ := u_known (C := RX3) (T := TX3) (N := 9) (n := 9) hj iT_3 (hj _ (jT_mem (mt_1 (List.mem_of_getElem? (i := 124) rfl)) rfl))
  obtain ⟨c4, i4, k4⟩ := u_known (C := RX4) (T := TX4) (N := 5) (n := 5) hj iT_4 (hj _ (jT_mem (mt_1 (List.mem_of_getElem? (i := 100) rfl)) rfl))
  obtain ⟨c5, i5, k5⟩ := u_known (C := RX5) (T := TX5) (N := 9) (n := 9) hj iT_5 (hj _ (jT_mem (mt_3 (List.mem_of_getElem? (i := 197) rfl)) rfl))
  obtain ⟨c6, i6, k6⟩ := u_known (C := RX6) (T := TX6) (N := 16) (n := 16) hj iT_6 (hj _ (jT_mem (mt_3 (List.mem_of_getElem? (i := 203) rfl)) rfl))
  obtain ⟨c7, i7, k7⟩ := u_known (C := RX7) (T := TX7) (N := 10) (n := 10) hj iT_7 (hj _ (jT_mem (mt_2 (List.mem_of_getElem? (i := 9) rfl)) rfl))
  obtain ⟨c8, i8, k8⟩ := u_known (C := RX8) (T := TX8) (N := 10) (n := 10) hj iT_8 (hj _ (jT_mem (mt_1 (List.mem_of_getElem? (i := 94) rfl)) rfl))
  obtain ⟨c9, i9, k9⟩ := u_known (C := RX9) (T := TX9) (N := 9) (n := 9) hj iT_9 (hj _ (jT_mem (mt_1 (List.mem_of_getElem? (i := 53) rfl)) rfl))
  obtain ⟨c10, i10, k10⟩ := u_known (C := RX10) (T := TX10) (N := 2) (n := 2) hj iT_10 (hj _ (jT_mem (mt_1 (List.mem_of_getElem? (i := 36) rfl)) rfl))
  obtain ⟨c11, i11, k11⟩ := u_known (C := RX11) (T := TX11) (N := 17) (n := 17) hj iT_11 (hj _ (jT_mem (mt_1 (List.mem_of_getElem? (i := 28) rfl)) rfl))
  obtain ⟨c12, i12, k12⟩ := u_known (C := RX12) (T := TX12) (N := 67) (n := 67) hj iT_12 (hj _ (jT_mem (mt_7 (List.mem_of_getElem? (i := 26) rfl)) rfl))
  obtain ⟨dC, dI, hKc⟩ : ∃ (dC : Nat → ClassId) (dI : Nat → Nat → Nat), ∀ (k : Nat) (q : vw_C), vwCl[k]? = some q → u_Kn s q.1 q.2.1 q.2.2 (dC k) (dI k) := by
    refine ⟨fun k => match k with | 0 => c0 | 1 => c1 | 2 => c2 | 3 => c3 | 4 => c4 | 5 => c5 | 6 => c6 | 7 => c7 | 8 => c8 | 9 => c9 | 10 => c10 | 11 => c11 | 12 => c12 | _ => c0, fun k => match k with | 0 => i0 | 1 => i1 | 2 => i2 | 3 => i3 | 4 => i4 | 5 => i5 | 6 => i6 | 7 => i7 | 8 => i8 | 9 => i9 | 10 => i10 | 11 => i11 | 12 => i12 | _ => i0, ?_⟩
    intro k q hq
    match k, hq with
    | 0, hq => cases hq; exact k0
    | 1, hq => cases hq; exact k1
    | 2, hq => cases hq; exact k2
    | 3, hq => cases hq; exact k3
    | 4, hq => cases hq; exact k4
    | 5, hq => cases hq; exact k5
    | 6, hq => cases hq; exact k6
    | 7, hq => cases hq; exact k7
    | 8, hq => cases hq; exact k8
    | 9, hq => cases hq; exact k9
    | 10, hq => cases hq; exact k10
    | 11, hq => cases hq; exact k11
    | 12, hq => cases hq; exact k12
    | k + 13, hq => simp at hq
  obtain ⟨ab, abk, abp, ab1, ab2, ab3⟩ := Cond.arrayClass_spec (type := .byte) (hj _ (jT_mem (mt_1 (List.mem_of_getElem? (i := 51) rfl)) rfl))
  obtain ⟨ai, aik, aip, ai1, ai2, ai3⟩ := Cond.arrayClass_spec (type := .int) (hj _ (jT_mem (mt_1 (List.mem_of_getElem? (i := 92) rfl)) rfl))
  obtain ⟨al, alk, alp, al1, al2, al3⟩ := Cond.arrayClass_spec (type := .long) (hj _ (jT_mem (mt_2 (List.mem_of_getElem? (i := 46) rfl)) rfl))
  obtain ⟨az, azk, azp, az1, az2, az3⟩ := Cond.arrayClass_spec (type := .boolean) (hj _ (jT_mem (mt_2 (List.mem_of_getElem? (i := 99) rfl)) rfl))
  have w5 := hts _ (mt_1 (List.mem_of_getElem? (i := 203) rfl) : Cond.arrayOver (.object RX5) ∈ lw_tbl)
  have w2 := hts _ (mt_1 (List.mem_of_getElem? (i := 205) rfl) : Cond.arrayOver (.object RX2) ∈ lw_tbl)
  have wa := hts _ (mt_7 (List.mem_of_getElem? (i := 32) rfl) : Cond.arrayOver (.array .byte) ∈ lw_tbl)
  obtain ⟨akp, ak, akk, ak1, -, ak3, ak4, ak5⟩ := Cond.arrayOver_spec w2
  obtain ⟨app, ap, apk, ap1, -, ap3, ap4, ap5⟩ := Cond.arrayOver_spec w5
  obtain ⟨aap, aa, aak, aa1, aa2, aa3, aa4⟩ := Cond.arrayOver_specA wa
  have hK : va_K (dC, dI) vwCl (jtys (ab, ai, al, az, ak, ap, aa)) s := by
    refine ⟨hKc, fun k q hq => ?_⟩
    match k, hq with
    | 0, hq => cases hq; exact ⟨fun N z => ⟨(fun k h => by cases h), abk, ab2, abp, ab3⟩, ab1⟩
    | 1, hq => cases hq; exact ⟨fun N z => ⟨(fun k h => by cases h), aik, ai2, aip, ai3⟩, ai1⟩
    | 2, hq => cases hq; exact ⟨fun N z => ⟨(fun k h => by cases h), alk, al2, alp, al3⟩, al1⟩
    | 3, hq => cases hq; exact ⟨fun N z => ⟨(fun k h => by cases h), azk, az2, azp, az3⟩, az1⟩
    | 4, hq => cases hq; exact ⟨fun N z => ⟨(fun k h => by cases h), akk, ak3, akp, ak4⟩, akk, akp, ak3, ak4, ak1, ak5⟩
    | 5, hq => cases hq; exact ⟨fun N z => ⟨(fun k h => by cases h), apk, ap3, app, ap4⟩, apk, app, ap3, ap4, ap1, ap5⟩
    | 6, hq => cases hq; exact ⟨fun N z => ⟨(fun k h => by cases h), aak, aa2, aap, aa3⟩, aa4⟩
    | k + 7, hq => simp [jtys] at hq
  have hN : jN s := by
    refine ⟨fun w hw => ?_, va_AO.of w5, va_AO.of w2, wa⟩
    have h1 := hts w (jnest_in w hw)
    have h2 := jnest_all w hw
    cases w with
    | fieldLinkNest a i b n d hh => exact va_Nw.of rfl h1
    | methodLinkNest a i x hh => exact va_Nw.of rfl h1
    | _ => cases h2
  have hT : ∀ w ∈ Cond.arrayClass .byte :: jT, w.before #[Value.ref b] s = true := fun w hw => (List.mem_cons.mp hw).elim (fun e => by subst e; exact (hj _ (jT_mem (mt_1 (List.mem_of_getElem? (i := 51) rfl)) rfl))) (hj w)
  have hl := lv_entry ([.ref b]) (n := 8) (Nat.le_of_ble_eq_true rfl)
  rw [lg_entry_eq]
  generalize (lg_sl ([.ref b]) ++ List.replicate (8 - (lg_sl ([.ref b])).length) Slot.unset).toArray = ls at hl ⊢
  have hl : lv_has ls 8 [(0, .ref b)] := hl
  refine W.mono (fun t => law_end (D := (dC, dI)) (cy := (ab, ai, al, az, ak, ap, aa))) (h ((p, l, e, room_1, s, m, #[Value.ref b], below, meth, c), (dC, dI), (ab, ai, al, az, ak, ap, aa), [], (fun q => s.heap.size ≤ q), MQ below (jQ (dC, dI) (ab, ai, al, az, ak, ap, aa) jRL (fun q => s.heap.size ≤ q)) #[Value.ref b] s room_1.cells room_1.slots (fun q => s.heap.size ≤ q)) rfl rfl rfl rfl ⟨⟨hx, hb, hml, hown, hT⟩, hK, fun _ h => h, hN, hr, hlocks, rfl, fun _ h => h⟩ s.heap [] ls hl ?_ ?_ va_S.rf)
  · show va_P (dC, dI) vwCl [] s.heap
    exact fun k q h => by simp at h
  · show va_D (fun q => s.heap.size ≤ q) []
    exact ⟨fun i j p q h => by simp at h, fun k q h => by simp at h⟩
section LAWROWS
variable {G : jG} {cc : ByteArray} {own : String} {Ts : List Cond} {nL : Nat} {ret : Option FieldType} {rm : Room} {Rt : jRt} {pc : Nat} {lv : List (Nat × Value)} {st : List Value} {Z : jZ} {I : jI} {L : jL} {k n : Nat}
/-- the script: read -/
theorem j_sld (E : jE G cc own Ts nL ret rm Rt) {b Ls : Nat} {xs : Nat → Int32} (hX : va_X b Ls xs (gS G) (gS G).heap) (hbl : b < (gS G).heap.size) (hbA : ¬ gA G b) {i : Int32} (hin : vp_in i Ls) (d : decode cc pc = .ok (.iaload, 1)) (kk : jJ G nL (pc + 1) lv (.int (xs i.toNatClampNeg) :: st) Z I L k n) : jJ G nL pc lv (.int i :: .ref b :: st) Z I L k n := fun H locs ls hl hP hD hS => va_sld E.1.1 E.1.2.1 hX hbl hbA hS hin d (kk H locs ls hl hP hD hS)
/-- the script: its length -/
theorem j_slen (E : jE G cc own Ts nL ret rm Rt) {b Ls : Nat} {xs : Nat → Int32} (hX : va_X b Ls xs (gS G) (gS G).heap) (hbl : b < (gS G).heap.size) (hbA : ¬ gA G b) (d : decode cc pc = .ok (.arraylength, 1)) (kk : jJ G nL (pc + 1) lv (.int (Int32.ofNat Ls) :: st) Z I L k n) : jJ G nL pc lv (.ref b :: st) Z I L k n := fun H locs ls hl hP hD hS => va_slen E.1.1 E.1.2.1 hX hbl hbA hS d (kk H locs ls hl hP hD hS)
end LAWROWS
