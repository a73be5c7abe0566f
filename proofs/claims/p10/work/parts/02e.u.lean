/-! ===== methods that make as many cells as they need: the pool tells how many ===== -/
def jcz (Z : jZ) : Nat := Z.1.length
def jcs (k m : Nat) : Nat := if k < 13 then jnum k else m
def jsz (Z : jZ) : Nat := (Z.1.map (fun a => jcs (Z.2.1 a) (Z.2.2.1 a))).sum
/-- more cells, more slots -/
def jle (Z Z' : jZ) : Prop := jcz Z ≤ jcz Z' ∧ jsz Z ≤ jsz Z'
/-- within the bounds -/
def jin (B : Nat × Nat) (Z : jZ) : Prop := jcz Z ≤ B.1 ∧ jsz Z ≤ B.2
theorem jle_rfl {Z : jZ} : jle Z Z := ⟨Nat.le_refl _, Nat.le_refl _⟩
theorem jle_trans {Z Z' Z'' : jZ} (h : jle Z Z') (h' : jle Z' Z'') : jle Z Z'' := ⟨Nat.le_trans h.1 h'.1, Nat.le_trans h.2 h'.2⟩
theorem jcz_nw {Z : jZ} {q k m : Nat} : jcz (jnw Z q k m) = jcz Z + 1 := by simp [jcz, jnw]
theorem jsz_nw {Z : jZ} {q k m : Nat} (hq : q ∉ Z.1) : jsz (jnw Z q k m) = jsz Z + jcs k m := by
  have e : ∀ a ∈ Z.1, jcs (va_up Z.2.1 q k a) (va_up Z.2.2.1 q m a) = jcs (Z.2.1 a) (Z.2.2.1 a) := fun a ha => by
    have hne : a ≠ q := fun e => hq (e ▸ ha)
    rw [va_up_ne _ _ hne, va_up_ne _ _ hne]
  show (List.map (fun a => jcs (va_up Z.2.1 q k a) (va_up Z.2.2.1 q m a)) (Z.1 ++ [q])).sum = _
  rw [List.map_append, List.sum_append, List.map_congr_left e]
  simp [jsz, va_up_self]
theorem jle_nw {Z : jZ} {q k m : Nat} (hq : q ∉ Z.1) : jle Z (jnw Z q k m) := ⟨by rw [jcz_nw]; omega, by rw [jsz_nw hq]; omega⟩
theorem jin_nw {B : Nat × Nat} {Z : jZ} {q m : Nat} (hq : q ∉ Z.1) (h1 : jcz Z + 1 ≤ B.1) (h2 : jsz Z + m ≤ B.2) : jin B (jnw Z q 15 m) := ⟨by rw [jcz_nw]; exact h1, by rw [jsz_nw hq]; exact h2⟩
/-- the slots of a heap -/
def jhs (H : Heap) : Nat := H.foldl (fun n c => n + c.slots.size) 0
theorem book_hs {s : State} (h : s.slotsTrue = true) : s.slotsUsed = jhs s.heap := by
  unfold State.slotsTrue at h
  exact eq_of_beq h
section USTAND
variable {p : Program} {l : Launch} {e : Env} {R : Room} {s : State} {m : MethodId} {args : Array Value} {below : List Frame} {meth : Method} {c : Code} {T : State} {locs : List Loc} {cells slots : Nat}
theorem stand_hs0 (X : Stand p l e R s m args below meth c T locs cells slots) : s.slotsUsed = jhs s.heap := by
  have h := X.room
  simp only [State.hasRoom, Bool.and_eq_true] at h
  exact book_hs h.2
theorem stand_hs (X : Stand p l e R s m args below meth c T locs cells slots) : T.slotsUsed = jhs T.heap := book_hs X.book
theorem stand_hsle (X : Stand p l e R s m args below meth c T locs cells slots) : jhs T.heap ≤ jhs s.heap + slots := by
  rw [← stand_hs X, ← stand_hs0 X]
  exact X.used
/-- no more than was really made -/
theorem stand_tight {k n : Nat} (X : Stand p l e R s m args below meth c T locs cells slots) (h1 : T.heap.size ≤ s.heap.size + k) (h2 : jhs T.heap ≤ jhs s.heap + n) : Stand p l e R s m args below meth c T locs k n := by
  have e0 := stand_hs0 X
  have e1 := stand_hs X
  obtain ⟨a1, a2, a3, a4, a5, a6⟩ := X.same
  have a4' : T.slotsUsed = s.slotsUsed + ((T.heap.toList.drop s.heap.size).map (·.slots.size)).sum := a4
  refine { X with same := ⟨a1, a2, h1, a4, ?_, a6⟩ }
  show ((T.heap.toList.drop s.heap.size).map (·.slots.size)).sum ≤ n
  omega
end USTAND
/-- a method's end, with what was made -/
def jQU (D : va_G) (cy : jC) (Rt : jRt) (A : Nat → Prop) (Z0 : jZ) : Array Value → State → Outcome → State → Prop := fun _ st oc t =>
  (∃ (v : Option Value) (Z : jZ) (I : jI) (L : jL), oc = .returned v ∧ (Rt v Z I L ∧ jle Z0 Z) ∧ va_P D vwCl (jw cy Z I L) t.heap ∧ va_K D vwCl (jtys cy) t ∧ va_D A (jw cy Z I L) ∧ t.heap.size + jcz Z0 ≤ st.heap.size + jcz Z ∧ jhs t.heap + jsz Z0 ≤ jhs st.heap + jsz Z) ∧ va_F A st t
abbrev jrm (B : Nat × Nat) (f lo : Nat) (Z : jZ) : Room := { frames := f, cells := B.1 - jcz Z, slots := B.2 - jsz Z, locals := lo }
/-- a contract within bounds -/
def jCtU (l : Launch) (y : MethodName) (ws : List Cond) (B : Nat × Nat) (f lo : Nat) (D : va_G) (cy : jC) (as : List Value) (Z : jZ) (I : jI) (L : jL) (Rt : jRt) : Prop :=
  ∀ sz : Nat, Met l y ws (jrm B f lo Z) (va_Pc as (fun U => U.heap.size = sz ∧ va_P D vwCl (jw cy Z I L) U.heap ∧ va_K D vwCl (jtys cy) U ∧ va_D (fun _ => True) (jw cy Z I L) ∧ jN U)) (jQU D cy Rt (va_A (jw cy Z I L) sz) Z) (B.1 - jcz Z) (B.2 - jsz Z) (va_A (jw cy Z I L) sz)
/-- where a method that makes cells ends -/
def jEU (G : jG) (B : Nat × Nat) (Z0 : jZ) (Rt : jRt) : Prop := ∀ t : State, MQ (gB G) (jQU (gD G) (gY G) Rt (gA G) Z0) (gV G) (gS G) (B.1 - jcz Z0) (B.2 - jsz Z0) (gA G) t → gQ G t
def jRF : jRt := fun _ _ _ _ => False
section JU
variable {G : jG} {cc : ByteArray} {own : String} {Ts : List Cond} {nL : Nat} {ret : Option FieldType} {rm : Room} {Rt : jRt} {pc : Nat} {lv : List (Nat × Value)} {st : List Value} {Z Z0 : jZ} {I : jI} {L : jL} {k n f lo : Nat} {B : Nat × Nat}
theorem ju_k (hb : jin B Z) : jcz Z - jcz Z0 ≤ B.1 - jcz Z0 := Nat.sub_le_sub_right hb.1 _
theorem ju_n (hb : jin B Z) : jsz Z - jsz Z0 ≤ B.2 - jsz Z0 := Nat.sub_le_sub_right hb.2 _
theorem ju_kn (hb : jin B Z) : jcz Z - jcz Z0 + 0 ≤ B.1 - jcz Z0 ∧ jsz Z - jsz Z0 + 0 ≤ B.2 - jsz Z0 := ⟨ju_k hb, ju_n hb⟩
theorem j_kn {k' n' : Nat} (h1 : k = k') (h2 : n = n') (kk : jJ G nL pc lv st Z I L k' n') : jJ G nL pc lv st Z I L k n := by
  subst h1; subst h2; exact kk
/-- the facts at a return -/
theorem ju_end {H : Heap} {T : State} {locs : List Loc} (hc : jle Z0 Z) (hT : T.heap = H) (X : Stand (gP G) (gL G) (gE G) (gR G) (gS G) (gM G) (gV G) (gB G) (gH G) (gC G) T locs (jcz Z - jcz Z0) (jsz Z - jsz Z0)) : H.size + jcz Z0 ≤ (gS G).heap.size + jcz Z ∧ jhs H + jsz Z0 ≤ jhs (gS G).heap + jsz Z := by
  have h1 := X.heapSize
  have h2 := stand_hsle X
  rw [hT] at h1 h2
  have := hc.1
  have := hc.2
  constructor <;> omega
theorem ju_ireturn (E : jE G cc own Ts nL (some .int) (jrm B f lo Z0) jRF) (EU : jEU G B Z0 Rt) (hc : jle Z0 Z) (hb : jin B Z) {v : Int32} (h : Rt (some (.int v)) Z I L) (d : decode cc pc = .ok (.ireturn, 1)) : jJ G nL pc lv [.int v] Z I L (jcz Z - jcz Z0) (jsz Z - jsz Z0) := by
  intro H locs ls hl hP hD hS T hT X
  have hE := ju_end hc hT X
  exact (W.mono EU (W.widen (ju_k hb) (ju_n hb) (W.iret E.1.1 E.1.2.1 E.2.2.2.2.1 (fun t ht hW => ⟨⟨_, Z, I, L, rfl, ⟨h, hc⟩, by rw [ht]; exact j_cutP hP, va_K.moved hW.alike E.2.1, j_cutD hD, by rw [ht]; exact hE.1, by rw [ht]; exact hE.2⟩, hS.F ht⟩) hS.2.2 d E.2.2.2.2.2.1))) T hT X
theorem ju_zreturn (E : jE G cc own Ts nL (some .boolean) (jrm B f lo Z0) jRF) (EU : jEU G B Z0 Rt) (hc : jle Z0 Z) (hb : jin B Z) {v : Int32} (hv : v = 0 ∨ v = 1) (h : Rt (some (.int v)) Z I L) (d : decode cc pc = .ok (.ireturn, 1)) : jJ G nL pc lv [.int v] Z I L (jcz Z - jcz Z0) (jsz Z - jsz Z0) := by
  intro H locs ls hl hP hD hS T hT X
  have hE := ju_end hc hT X
  exact (W.mono EU (W.widen (ju_k hb) (ju_n hb) (W.zret E.1.1 E.1.2.1 E.2.2.2.2.1 (by rcases hv with rfl | rfl <;> rfl) (fun t ht hW => ⟨⟨_, Z, I, L, rfl, ⟨h, hc⟩, by rw [ht]; exact j_cutP hP, va_K.moved hW.alike E.2.1, j_cutD hD, by rw [ht]; exact hE.1, by rw [ht]; exact hE.2⟩, hS.F ht⟩) hS.2.2 d E.2.2.2.2.2.1))) T hT X
theorem ju_lreturn (E : jE G cc own Ts nL (some .long) (jrm B f lo Z0) jRF) (EU : jEU G B Z0 Rt) (hc : jle Z0 Z) (hb : jin B Z) {v : Int64} (h : Rt (some (.long v)) Z I L) (d : decode cc pc = .ok (.lreturn, 1)) : jJ G nL pc lv [.long v] Z I L (jcz Z - jcz Z0) (jsz Z - jsz Z0) := by
  intro H locs ls hl hP hD hS T hT X
  have hE := ju_end hc hT X
  exact (W.mono EU (W.widen (ju_k hb) (ju_n hb) (W.lret E.1.1 E.1.2.1 E.2.2.2.2.1 (fun t ht hW => ⟨⟨_, Z, I, L, rfl, ⟨h, hc⟩, by rw [ht]; exact j_cutP hP, va_K.moved hW.alike E.2.1, j_cutD hD, by rw [ht]; exact hE.1, by rw [ht]; exact hE.2⟩, hS.F ht⟩) hS.2.2 d E.2.2.2.2.2.1))) T hT X
theorem ju_return (E : jE G cc own Ts nL none (jrm B f lo Z0) jRF) (EU : jEU G B Z0 Rt) (hc : jle Z0 Z) (hb : jin B Z) (h : Rt none Z I L) (d : decode cc pc = .ok (.return_, 1)) : jJ G nL pc lv [] Z I L (jcz Z - jcz Z0) (jsz Z - jsz Z0) := by
  intro H locs ls hl hP hD hS T hT X
  have hE := ju_end hc hT X
  exact (W.mono EU (W.widen (ju_k hb) (ju_n hb) (W.vret E.1.1 E.1.2.1 E.2.2.2.2.1 (fun t ht hW => ⟨⟨_, Z, I, L, rfl, ⟨h, hc⟩, by rw [ht]; exact j_cutP hP, va_K.moved hW.alike E.2.1, j_cutD hD, by rw [ht]; exact hE.1, by rw [ht]; exact hE.2⟩, hS.F ht⟩) hS.2.2 d E.2.2.2.2.2.1))) T hT X
theorem ju_areturn {rt : FieldType} (E : jE G cc own Ts nL (some rt) (jrm B f lo Z0) jRF) (EU : jEU G B Z0 Rt) (hc : jle Z0 Z) (hb : jin B Z) (hrt : (∃ n, rt = .object n) ∨ ∃ t, rt = .array t) (r : Option Nat) {v : Value} (hv : v = va_rf r) (h : Rt (some (va_rf r)) Z I L) (d : decode cc pc = .ok (.areturn, 1)) : jJ G nL pc lv [v] Z I L (jcz Z - jcz Z0) (jsz Z - jsz Z0) := by
  intro H locs ls hl hP hD hS T hT X
  subst hv
  have hE := ju_end hc hT X
  exact (W.mono EU (W.widen (ju_k hb) (ju_n hb) (W.aret E.1.1 E.1.2.1 E.2.2.2.2.1 hrt (va_rf_or r) (fun t ht hW => ⟨⟨_, Z, I, L, rfl, ⟨h, hc⟩, by rw [ht]; exact j_cutP hP, va_K.moved hW.alike E.2.1, j_cutD hD, by rw [ht]; exact hE.1, by rw [ht]; exact hE.2⟩, hS.F ht⟩) hS.2.2 d E.2.2.2.2.2.1))) T hT X
/-- behind a call that made cells -/
theorem ju_back (E : jE G cc own Ts nL ret rm Rt) {st0 rest : List Value} {a : Array Value} {H : Heap} {locs : List Loc} {ls : Array Slot} {mc ms : Nat} {Rt' : jRt}
    (hr : va_Run (gP G) (gL G) (gE G) (gR G) (gS G) (gM G) (gV G) (gB G) (gH G) (gC G) H locs k n mc ms (F0 (gM G) pc ls st0) rest (jQU (gD G) (gY G) Rt' (va_A (jw (gY G) Z I L) H.size) Z a) (va_A (jw (gY G) Z I L) H.size))
    (hl : lv_has ls nL lv) (hP : va_P (gD G) vwCl (gX G ++ jw (gY G) Z I L) H) (hD : va_D (gA G) (gX G ++ jw (gY G) Z I L)) (hS : va_S (gA G) (gS G).heap H locs)
    (kk : ∀ v Z' I' L', Rt' v Z' I' L' → jle Z Z' → jJ G nL (pc + 3) lv (v.toList ++ rest) Z' I' L' (k + (jcz Z' - jcz Z)) (n + (jsz Z' - jsz Z))) : W (gP G) (gL G) (gE G) (gR G) (gS G) (gM G) (gV G) (gB G) (gH G) (gC G) H locs k n (gQ G) (F0 (gM G) pc ls st0) := by
  intro T hT X
  obtain ⟨v, st₀, t, T', Lw, h0, X', hL, e1, e2, ⟨⟨v2, Z', I', L', hv, ⟨hp, hjl⟩, hP', hK', hD', hz1, hz2⟩, hz, hk⟩, st⟩ := hr T hT X
  cases hv
  rw [h0] at hz hk hz1 hz2
  have hfr : ∀ q, va_A (jw (gY G) Z I L) H.size q → gA G q := by
    intro q hq
    rcases hq with ⟨k9, e9, h9⟩ | h9
    · exact (j_cutD hD).2 k9 _ h9
    · exact E.2.2.1 q (Nat.le_trans hS.1 h9)
  have hS' : va_S (gA G) (gS G).heap T'.heap (locs ++ Lw) := ⟨Nat.le_trans hS.1 (by rw [e1]; exact hz), fun q h1 h2 => by rw [e1, hk q (Nat.lt_of_lt_of_le h1 hS.1) (fun z => h2 (hfr q z))]; exact hS.2.1 q h1 h2, fun q hq => by
      rcases List.mem_append.mp hq with h | h
      · exact hS.2.2 q h
      · exact hfr _ (hL q h)⟩
  obtain ⟨hPj, hDj⟩ := j_join hP hD (H1 := T'.heap) (fun q h1 h2 => by rw [e1]; exact hk q h1 h2) hfr (by rw [e1]; exact hP') hD'
  have b1 := X.heapSize
  have b2 := stand_hsle X
  rw [hT] at b1 b2
  have g1 := hjl.1
  have g2 := hjl.2
  have X'' := stand_tight (k := k + (jcz Z' - jcz Z)) (n := n + (jsz Z' - jsz Z)) X' (by rw [e1]; omega) (by rw [e1]; omega)
  obtain ⟨t2, a1, b1⟩ := kk v Z' I' L' hp hjl T'.heap (locs ++ Lw) ls hl hPj hDj hS' T' rfl X''
  exact ⟨t2, st t2 a1, b1⟩
theorem ju_callV (E : jE G cc own Ts nL ret rm Rt) {y : MethodName} {ws ws' : List Cond} {f' lo' : Nat} {bytes : ByteArray} {maxL : Nat} {ret' : Option FieldType} {C : String} {T : u_T} {N i b c na : Nat} {Rt' : jRt} (As rest : List Value)
    (hM : jCtU (gL G) y ws B f' lo' (gD G) (gY G) (.ref b :: As) Z I L Rt') (hg : GoodIn Ts (wsV own i C y ws)) (hw : ws = Cond.code y bytes maxL ret' :: ws')
    (hd : y.cls = C ∧ y.cls ≠ "java/lang/invoke/MethodHandle" ∧ y.cls ≠ "java/lang/invoke/VarHandle" ∧ (parseMethodDescriptor y.desc).map (fun d => d.parameters.length) = some na)
    (hR : f' + 1 ≤ rm.frames ∧ 8 + (maxL + 11) + lo' ≤ rm.locals) (hcl : vwCl[c]? = some (C, T, N)) (hc : c < 13) (hk : jk Z b c) (hn : As.length = na) (hst : st = As.reverse ++ .ref b :: rest) (hcat : (rest.map fun v => v.category).sum ≤ 8)
    (hf : k + (B.1 - jcz Z) ≤ rm.cells ∧ n + (B.2 - jsz Z) ≤ rm.slots) (d : decode cc pc = .ok (.invokevirtual i, 3))
    (kk : ∀ v Z' I' L', Rt' v Z' I' L' → jle Z Z' → jJ G nL (pc + 3) lv (v.toList ++ rest) Z' I' L' (k + (jcz Z' - jcz Z)) (n + (jsz Z' - jsz Z))) : jJ G nL pc lv st Z I L k n := by
  intro H locs ls hl hP hD hS
  have eR := E.2.2.2.2.2.2.1
  obtain ⟨q, hq⟩ := jw_get (X := gX G) (cy := gY G) (I := I) (L := L) hk.1
  rw [jf_obj hk.2 hc] at hq
  have hrun := va_runV (p := gP G) (l := gL G) (e := gE G) (R := gR G) (s := gS G) (m := gM G) (args := gV G) (below := gB G) (meth := gH G) (c := gC G) (H := H) (locs := locs) (cells := k) (slots := n) (g := F0 (gM G) pc ls st) (As := As) (rest := rest) E.1 (hM H.size) (cwV na E.1.2.2.2.2 hg hw rfl rfl hd (by rw [eR]; exact hR))
    ⟨jP_blind, va_recv E.2.1 hP hcl hq, fun U hU hW => ⟨rfl, by rw [hU], by rw [hU]; exact j_cutP hP, va_K.moved hW.alike E.2.1, (j_cutD hD).weaken (fun _ _ _ _ => trivial), jN_warm hW E.2.2.2.1⟩⟩ rfl hn hl.1 hst (lv_room hcat) d (by rw [eR]; exact hf)
  exact ju_back E hrun hl hP hD hS kk
theorem ju_callVN (E : jE G cc own Ts nL ret rm Rt) {y : MethodName} {ws ws' : List Cond} {f' lo' : Nat} {bytes : ByteArray} {maxL : Nat} {ret' : Option FieldType} {C host : String} {T : u_T} {N i b c na : Nat} {Rt' : jRt} (As rest : List Value)
    (hM : jCtU (gL G) y ws B f' lo' (gD G) (gY G) (.ref b :: As) Z I L Rt') (hg : GoodIn Ts ws) (hw : ws = Cond.code y bytes maxL ret' :: ws')
    (hlk : Cond.methodLinkNest own i y host ∈ jnest) (hini : Cond.initialized y.cls ∈ Ts) (hinst : Cond.instanceMethod y ∈ Ts) (hsel : Cond.selects C y y ∈ Ts)
    (hd : y.cls ≠ "java/lang/invoke/MethodHandle" ∧ y.cls ≠ "java/lang/invoke/VarHandle" ∧ (parseMethodDescriptor y.desc).map (fun d => d.parameters.length) = some na)
    (hR : f' + 1 ≤ rm.frames ∧ 8 + (maxL + 11) + lo' ≤ rm.locals) (hcl : vwCl[c]? = some (C, T, N)) (hc : c < 13) (hk : jk Z b c) (hn : As.length = na) (hst : st = As.reverse ++ .ref b :: rest) (hcat : (rest.map fun v => v.category).sum ≤ 8)
    (hf : k + (B.1 - jcz Z) ≤ rm.cells ∧ n + (B.2 - jsz Z) ≤ rm.slots) (d : decode cc pc = .ok (.invokevirtual i, 3))
    (kk : ∀ v Z' I' L', Rt' v Z' I' L' → jle Z Z' → jJ G nL (pc + 3) lv (v.toList ++ rest) Z' I' L' (k + (jcz Z' - jcz Z)) (n + (jsz Z' - jsz Z))) : jJ G nL pc lv st Z I L k n := by
  intro H locs ls hl hP hD hS
  have eR := E.2.2.2.2.2.2.1
  obtain ⟨q, hq⟩ := jw_get (X := gX G) (cy := gY G) (I := I) (L := L) hk.1
  rw [jf_obj hk.2 hc] at hq
  have hrun := va_runVN (p := gP G) (l := gL G) (e := gE G) (R := gR G) (s := gS G) (m := gM G) (args := gV G) (below := gB G) (meth := gH G) (c := gC G) (H := H) (locs := locs) (cells := k) (slots := n) (g := F0 (gM G) pc ls st) (As := As) (rest := rest) E.1 (hM H.size) ⟨va_cnB na E.1.2.2.2.2 hg hw rfl rfl (E.2.2.2.1.1 _ hlk) (E.1.2.2.2.2 _ hini) hd (by rw [eR]; exact hR), E.1.2.2.2.2 _ hinst, E.1.2.2.2.2 _ hsel⟩
    ⟨jP_blind, va_recv E.2.1 hP hcl hq, fun U hU hW => ⟨rfl, by rw [hU], by rw [hU]; exact j_cutP hP, va_K.moved hW.alike E.2.1, (j_cutD hD).weaken (fun _ _ _ _ => trivial), jN_warm hW E.2.2.2.1⟩⟩ rfl hn hl.1 hst (lv_room hcat) d (by rw [eR]; exact hf)
  exact ju_back E hrun hl hP hD hS kk
theorem ju_callS (E : jE G cc own Ts nL ret rm Rt) {y : MethodName} {ws ws' : List Cond} {f' lo' : Nat} {bytes : ByteArray} {maxL : Nat} {ret' : Option FieldType} {i na : Nat} {Rt' : jRt} (As rest : List Value)
    (hM : jCtU (gL G) y ws B f' lo' (gD G) (gY G) As Z I L Rt') (hg : GoodIn Ts (va_wsS own i y ws)) (hw : ws = Cond.code y bytes maxL ret' :: ws')
    (hd : y.cls ≠ "java/lang/invoke/MethodHandle" ∧ y.cls ≠ "java/lang/invoke/VarHandle" ∧ (parseMethodDescriptor y.desc).map (fun d => d.parameters.length) = some na)
    (hR : f' + 1 ≤ rm.frames ∧ 8 + (maxL + 11) + lo' ≤ rm.locals) (hn : As.length = na) (hst : st = As.reverse ++ rest) (hcat : (rest.map fun v => v.category).sum ≤ 8)
    (hf : k + (B.1 - jcz Z) ≤ rm.cells ∧ n + (B.2 - jsz Z) ≤ rm.slots) (d : decode cc pc = .ok (.invokestatic i, 3))
    (kk : ∀ v Z' I' L', Rt' v Z' I' L' → jle Z Z' → jJ G nL (pc + 3) lv (v.toList ++ rest) Z' I' L' (k + (jcz Z' - jcz Z)) (n + (jsz Z' - jsz Z))) : jJ G nL pc lv st Z I L k n := by
  intro H locs ls hl hP hD hS
  have eR := E.2.2.2.2.2.2.1
  have hrun := va_runS (p := gP G) (l := gL G) (e := gE G) (R := gR G) (s := gS G) (m := gM G) (args := gV G) (below := gB G) (meth := gH G) (c := gC G) (H := H) (locs := locs) (cells := k) (slots := n) (g := F0 (gM G) pc ls st) (As := As) (rest := rest) E.1 (hM H.size) (va_cwS na E.1.2.2.2.2 hg hw rfl rfl hd (by rw [eR]; exact hR))
    ⟨jP_blind, fun U hU hW => ⟨rfl, by rw [hU], by rw [hU]; exact j_cutP hP, va_K.moved hW.alike E.2.1, (j_cutD hD).weaken (fun _ _ _ _ => trivial), jN_warm hW E.2.2.2.1⟩⟩ rfl hn hl.1 hst (lv_room hcat) d (by rw [eR]; exact hf)
  exact ju_back E hrun hl hP hD hS kk
/-- the counts behind a call, in a method that makes cells itself -/
theorem ju_next (hc : jle Z0 Z) {Z' : jZ} (h : jle Z Z') (kk : jJ G nL pc lv st Z' I L (jcz Z' - jcz Z0) (jsz Z' - jsz Z0)) : jJ G nL pc lv st Z' I L (jcz Z - jcz Z0 + (jcz Z' - jcz Z)) (jsz Z - jsz Z0 + (jsz Z' - jsz Z)) := by
  have h1 := hc.1
  have h2 := hc.2
  have h3 := h.1
  have h4 := h.2
  exact j_kn (by omega) (by omega) kk
theorem ju_f (hc : jle Z0 Z) (hb : jin B Z) : jcz Z - jcz Z0 + (B.1 - jcz Z) ≤ B.1 - jcz Z0 ∧ jsz Z - jsz Z0 + (B.2 - jsz Z) ≤ B.2 - jsz Z0 := by
  have h1 := hc.1
  have h2 := hc.2
  have h3 := hb.1
  have h4 := hb.2
  constructor <;> omega
/-- a new array of longs, of any length -/
theorem ju_newaJ (E : jE G cc own Ts nL ret (jrm B f lo Z0) Rt) (hc : jle Z0 Z) {m : Int32} (hm : ¬ m < 0) (hb : m.toNatClampNeg ≤ 67108864) (w1 : Cond.arrayClass .long ∈ Ts) (h1 : jcz Z + 1 ≤ B.1) (h2 : jsz Z + m.toNatClampNeg ≤ B.2) (d : decode cc pc = .ok (.newarray .long, 2))
    (kk : ∀ q, q ∉ Z.1 → jJ G nL (pc + 2) lv (.ref q :: st) (jnw Z q 15 m.toNatClampNeg) (jz0 I q) (jzL L q) (jcz (jnw Z q 15 m.toNatClampNeg) - jcz Z0) (jsz (jnw Z q 15 m.toNatClampNeg) - jsz Z0)) : jJ G nL pc lv (.int m :: st) Z I L (jcz Z - jcz Z0) (jsz Z - jsz Z0) := by
  have g1 := hc.1
  have g2 := hc.2
  refine j_newaJ E m.toNatClampNeg hm rfl (by show m.toNatClampNeg * 8 ≤ 536870912; omega) w1 (by show _ ≤ B.1 - jcz Z0; omega) (by show _ ≤ B.2 - jsz Z0; omega) d (fun q hq => ?_)
  refine j_kn ?_ ?_ (kk q hq)
  · rw [jcz_nw]
    omega
  · rw [jsz_nw hq, show jcs 15 m.toNatClampNeg = m.toNatClampNeg from rfl]
    omega
/-- System.arraycopy of longs -/
theorem j_copyl (E : jE G cc own Ts nL ret rm Rt) {i a b : Nat} {sp dp m : Int32} (w1 : Cond.methodLink own i arraycopyName ∈ Ts) (w2 : Cond.native arraycopyName ∈ Ts) (w3 : Cond.static arraycopyName ∈ Ts) (w4 : Cond.initialized "java/lang/System" ∈ Ts) (hka : jk Z a 15) (hkb : jk Z b 15) (h1 : ¬ sp < 0) (h2 : ¬ dp < 0) (h3 : ¬ m < 0) (h4 : sp.toNatClampNeg + m.toNatClampNeg ≤ jlen Z a) (h5 : dp.toNatClampNeg + m.toNatClampNeg ≤ jlen Z b) (hf : 1 ≤ rm.frames) (hlo : (st.map fun v => v.category).sum + (nativeFrameWords "java/lang/System" "arraycopy" 5 + 11) ≤ rm.locals) (d : decode cc pc = .ok (.invokestatic i, 3)) (kk : jJ G nL (pc + 3) lv st Z I (va_up L b (va_cpy (L a) (L b) sp.toNatClampNeg dp.toNatClampNeg m.toNatClampNeg)) k n) : jJ G nL pc lv (.int m :: .int dp :: .ref b :: .int sp :: .ref a :: st) Z I L k n := by
  intro H locs ls hl hP hD hS
  have hD0 := hD
  have eR := E.2.2.2.2.2.2.1
  obtain ⟨qa, hqa⟩ := jw_get (X := gX G) (cy := gY G) (I := I) (L := L) hka.1
  obtain ⟨qb, hqb⟩ := jw_get (X := gX G) (cy := gY G) (I := I) (L := L) hkb.1
  have hq0 := hqb
  rw [jf_15 hka.2] at hqa
  rw [jf_15 hkb.2] at hqb
  refine va_copyl E.1.1 E.1.2.1 (by rw [E.1.2.2.1]; exact hl.1.symm) E.1.2.2.2.1 (E.1.2.2.2.2 _ w1) (E.1.2.2.2.2 _ w2) (E.1.2.2.2.2 _ w3) (E.1.2.2.2.2 _ w4) E.2.1 hP hD hS qa qb 2 2 hqa hqb rfl rfl rfl h1 h2 h3 h4 h5 (fun _ _ => rfl) (by rw [eR]; exact hf) (by rw [eR]; exact hlo) d (fun H locs hP hD hS => ?_)
  have e := jw_set (X := gX G) (cy := gY G) (Z := Z) (Z' := Z) (I := I) (I' := I) (L := L) (L' := va_up L b (va_cpy (L a) (L b) sp.toNatClampNeg dp.toNatClampNeg m.toNatClampNeg)) (a := b) (q := qb) hD0 hkb.1 hq0 rfl (by rw [jf_15 hkb.2]) (fun c hc => jf_L_ne hc)
  simp only [va_up_self] at e
  rw [e] at hP hD
  exact kk H locs ls hl hP hD hS
/-- a contract within bounds, from the walk of the body -/
theorem jCtU_of {l : Launch} {y : MethodName} {ws ws' : List Cond} {D : va_G} {cy : jC} {as : List Value} {Rt : jRt} {cc : ByteArray} {maxL : Nat} {ret : Option FieldType} (hy : plainName y.cls = true) (hw : ws = Cond.code y cc maxL ret :: ws') (hlen : (lg_sl as).length ≤ maxL)
    (h : ∀ G : jG, gD G = D → gY G = cy → gL G = l → jE G cc y.cls ws maxL ret (jrm B f lo Z) jRF → jEU G B Z Rt → jJ G maxL 0 (lv_args 0 as) [] Z I L (jcz Z - jcz Z) (jsz Z - jsz Z)) : jCtU l y ws B f lo D cy as Z I L Rt := by
  intro sz
  refine Met.ofW (cc := cc) (maxL := maxL) (ret := ret) hy hw ?_
  intro p e s m args below meth c s₁ Bd hml hv
  obtain ⟨rfl, hsz, hP, hK, hD0, hN⟩ := hv
  subst hsz
  have hD := hD0.self (sz := s.heap.size)
  have hown : s.vm.findClass y.cls = some m.cls := findClass_of_methodNamed Bd.named
  have hl := lv_entry as (n := maxL) hlen
  rw [lg_entry_eq]
  generalize (lg_sl as ++ List.replicate (maxL - (lg_sl as).length) Slot.unset).toArray = ls at hl ⊢
  have key := h ((p, l, e, (headSpec ws (jrm B f lo Z)).room, s, m, as.toArray, below, meth, c), D, cy, [], va_A (jw cy Z I L) s.heap.size, MQ below (jQU D cy Rt (va_A (jw cy Z I L) s.heap.size) Z) as.toArray s (B.1 - jcz Z) (B.2 - jsz Z) (va_A (jw cy Z I L) s.heap.size)) rfl rfl rfl
    ⟨⟨Bd.exec, Bd.bytes, hml, hown, atoms_spec (ws := ws) Bd.pre⟩, hK, fun q h => Or.inr h, hN, Bd.returns, Bd.notSynchronized, rfl, fun t h => by
      obtain ⟨o, h1, h2, ⟨⟨v, Z, I, L, h3, h4, -⟩, -⟩, -⟩ := h
      exact h4.elim⟩ (fun _ h => h)
  rw [Nat.sub_self, Nat.sub_self] at key
  exact key s.heap [] ls hl hP hD va_S.rf
end JU
/-! the ends of methods that make cells -/
def urtV (B : Nat × Nat) (Z : jZ) (Q : jZ → jI → jL → Prop) : jRt := fun v Z' I' L' => jext Z Z' ∧ SH Z' ∧ jin B Z' ∧ v = none ∧ Q Z' I' L'
def urtI (B : Nat × Nat) (Z : jZ) (Q : Int32 → jZ → jI → jL → Prop) : jRt := fun v Z' I' L' => jext Z Z' ∧ SH Z' ∧ jin B Z' ∧ ∃ r : Int32, v = some (.int r) ∧ Q r Z' I' L'
def urtZ (B : Nat × Nat) (Z : jZ) (Q : Int32 → jZ → jI → jL → Prop) : jRt := fun v Z' I' L' => jext Z Z' ∧ SH Z' ∧ jin B Z' ∧ ∃ r : Int32, v = some (.int r) ∧ (r = 0 ∨ r = 1) ∧ Q r Z' I' L'
def urtL (B : Nat × Nat) (Z : jZ) (Q : Int64 → jZ → jI → jL → Prop) : jRt := fun v Z' I' L' => jext Z Z' ∧ SH Z' ∧ jin B Z' ∧ ∃ r : Int64, v = some (.long r) ∧ Q r Z' I' L'
def urtR (k : Nat) (B : Nat × Nat) (Z : jZ) (Q : Option Nat → jZ → jI → jL → Prop) : jRt := fun v Z' I' L' => jext Z Z' ∧ SH Z' ∧ jin B Z' ∧ ∃ r : Option Nat, v = some (va_rf r) ∧ (∀ b, r = some b → jk Z' b k) ∧ Q r Z' I' L'
/-- a new array of numbers: the shape stays -/
theorem SH_nwa {Z : jZ} {q k m : Nat} (h : SH Z) (hq : q ∉ Z.1) (h1 : 13 ≤ k) (h2 : k ≤ 16) : SH (jnw Z q k m) := by
  have hx : jext Z (jnw Z q k m) := jext_nw hq
  have old : ∀ a c, jk (jnw Z q k m) a c → a ≠ q → jk Z a c := fun a c ha hne => by
    refine ⟨?_, ?_⟩
    · rcases List.mem_append.mp ha.1 with h1 | h1
      · exact h1
      · exact absurd (List.mem_singleton.mp h1) hne
    · have h2 : va_up Z.2.1 q k a = c := ha.2
      rw [va_up_ne _ _ hne] at h2
      exact h2
  have er : ∀ a i, a ≠ q → jr (jnw Z q k m) a i = jr Z a i := fun a i hne => congrFun (va_up_ne _ _ hne) i
  have kq : ∀ c, jk (jnw Z q k m) q c → c = k := fun c hc => hc.2.symm.trans (va_up_self _ _ _)
  have js : ∀ j, jsh k j = none := fun j => by
    rcases (show k = 13 ∨ k = 14 ∨ k = 15 ∨ k = 16 by omega) with rfl | rfl | rfl | rfl <;> rfl
  refine ⟨fun a c ha j k' o e => ?_, fun a ha i b e => ?_, fun a ha i hi => ?_, fun a ha i hi => ?_⟩
  · by_cases hne : a = q
    · subst hne
      rw [kq c ha, js j] at e
      cases e
    · obtain ⟨b, h1, h2, h3⟩ := h.1 a c (old a c ha hne) j k' o e
      exact ⟨b, (er a j hne).trans h1, (hx b k' h2).1, fun m' hm => (hx b k' h2).2.trans (h3 m' hm)⟩
  · by_cases hne : a = q
    · subst hne
      have := kq 18 ha
      omega
    · rw [er a i hne] at e
      exact (hx _ _ (h.2.1 a (old a 18 ha hne) i b e)).1
  · by_cases hne : a = q
    · subst hne
      have := kq 17 ha
      omega
    · have ha' := old a 17 ha hne
      rw [(hx a 17 ha').2] at hi
      obtain ⟨b, h1, h2⟩ := h.2.2.1 a ha' i hi
      exact ⟨b, (er a i hne).trans h1, (hx _ _ h2).1⟩
  · by_cases hne : a = q
    · subst hne
      have := kq 19 ha
      omega
    · have ha' := old a 19 ha hne
      rw [(hx a 19 ha').2] at hi
      obtain ⟨b, h1, h2, h3⟩ := h.2.2.2 a ha' i hi
      exact ⟨b, (er a i hne).trans h1, (hx _ _ h2).1, (hx _ _ h2).2.trans h3⟩
/-- Rows.keys is put -/
theorem SH_keys {Z : jZ} {a b : Nat} (h : SH Z) (ha : jk Z a 7) (hb : jk Z b 15) : SH (jpR Z a 0 (some b)) := by
  have e : ∀ x j, ¬ (x = a ∧ j = 0) → jr (jpR Z a 0 (some b)) x j = jr Z x j := by
    intro x j hn
    show va_up Z.2.2.2 a (va_up (Z.2.2.2 a) 0 (some b)) x j = Z.2.2.2 x j
    by_cases hx : x = a
    · subst hx
      rw [va_up_self, va_up_ne _ _ (fun q => hn ⟨rfl, q⟩)]
    · rw [va_up_ne _ _ hx]
  refine ⟨fun x c hx j k o he => ?_, fun x hx j y hy => ?_, fun x hx j hj => ?_, fun x hx j hj => ?_⟩
  · by_cases q : x = a ∧ j = 0
    · obtain ⟨rfl, rfl⟩ := q
      have ec : c = 7 := hx.2.symm.trans ha.2
      subst ec
      have he : some (15, none) = some (k, o) := he
      cases he
      exact ⟨b, by show va_up Z.2.2.2 x (va_up (Z.2.2.2 x) 0 (some b)) x 0 = some b; rw [va_up_self, va_up_self], hb, fun m hm => by cases hm⟩
    · rw [e x j q]
      exact h.1 x c hx j k o he
  · rw [e x j (fun q => by obtain ⟨rfl, rfl⟩ := q; have e2 : 18 = 7 := hx.2.symm.trans ha.2; omega)] at hy
    exact h.2.1 x hx j y hy
  · rw [e x j (fun q => by obtain ⟨rfl, rfl⟩ := q; have e2 : 17 = 7 := hx.2.symm.trans ha.2; omega)]
    exact h.2.2.1 x hx j hj
  · rw [e x j (fun q => by obtain ⟨rfl, rfl⟩ := q; have e2 : 19 = 7 := hx.2.symm.trans ha.2; omega)]
    exact h.2.2.2 x hx j hj
section JMINL
variable {G : jG} {cc : ByteArray} {own : String} {Ts : List Cond} {nL : Nat} {ret : Option FieldType} {rm : Room} {Rt : jRt} {pc : Nat} {lv : List (Nat × Value)} {st : List Value} {Z : jZ} {I : jI} {L : jL} {k n : Nat}
/-- Math.min of longs -/
theorem j_minl (E : jE G cc own Ts nL ret rm Rt) {i : Nat} {x y : Int64} (w1 : Cond.methodLink own i Lib.MathLoose.min_long.x ∈ Ts) (w2 : Cond.static Lib.MathLoose.min_long.x ∈ Ts) (w3 : Cond.initialized "java/lang/Math" ∈ Ts) (w4 : Cond.code Lib.MathLoose.min_long.x Lib.MathLoose.min_long.code 4 (some .long) ∈ Ts) (h1 : 1 ≤ rm.frames) (h2 : (st.map fun v => v.category).sum + 15 ≤ rm.locals) (h3 : k ≤ rm.cells) (h4 : n ≤ rm.slots) (d : decode cc pc = .ok (.invokestatic i, 3)) (kk : jJ G nL (pc + 3) lv (.long (if y < x then y else x) :: st) Z I L k n) : jJ G nL pc lv (.long y :: .long x :: st) Z I L k n := by
  intro H locs ls hl hP hD hS
  have eR := E.2.2.2.2.2.2.1
  exact va_mmin_long E.1.1 E.1.2.1 (by rw [E.1.2.2.1]; exact hl.1.symm) E.1.2.2.2.1 (E.1.2.2.2.2 _ w1) (E.1.2.2.2.2 _ w2) (E.1.2.2.2.2 _ w3) (E.1.2.2.2.2 _ w4) (by rw [eR]; exact h1) (by rw [eR]; exact h2) (by rw [eR]; exact h3) (by rw [eR]; exact h4) d (kk H locs ls hl hP hD hS)
end JMINL
