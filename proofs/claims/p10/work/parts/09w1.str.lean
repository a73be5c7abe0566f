/-! ===== J: methods that stand on the String constant of LETTERS ===== -/
/-- the String of LETTERS at sa, its bytes at sb -/
def jlet : List Int32 := [97, 114, 115, 119, 120, 108, 106]
def jU (sa sb : Nat) (A : Nat → Prop) (U : State) (H : Heap) : Prop :=
  vk_R RX3 91 "arswxlj" sa U ∧ va_O "java/lang/String" sa A U H ∧ va_OF "java/lang/String" "coder" "B" (.int 0) sa A U H ∧ va_OF "java/lang/String" "value" "[B" (.ref sb) sa A U H ∧ va_T .byte sb 7 (fun j => .int (jlet.getD j 0)) A U H ∧ va_Z "java/lang/String" "COMPACT_STRINGS" "Z" (.int 1) A U H
theorem jU.warm {sa sb : Nat} {A : Nat → Prop} {s U : State} {H : Heap} (hW : s.WarmedH U.vm) (h : jU sa sb A s H) : jU sa sb A U H :=
  ⟨vk_R.warm hW h.1, va_O.moved hW.alike h.2.1, va_OF.moved hW.alike h.2.2.1, va_OF.moved hW.alike h.2.2.2.1, va_T.moved hW.alike h.2.2.2.2.1, va_Z.moved hW.alike h.2.2.2.2.2⟩
theorem jU.kept {sa sb : Nat} {A : Nat → Prop} {U : State} {H H1 : Heap} (h : jU sa sb A U H) (hq : ∀ a : Nat, a < H.size → ¬ A a → H1[a]? = H[a]?) : jU sa sb A U H1 :=
  ⟨h.1, h.2.1.kept hq, h.2.2.1.kept hq, h.2.2.2.1.kept hq, h.2.2.2.2.1.kept hq, h.2.2.2.2.2.kept hq⟩
theorem jU.narrow {sa sb : Nat} {A B : Nat → Prop} {U : State} {H : Heap} (h : jU sa sb A U H) (hAB : ∀ q, B q → A q) : jU sa sb B U H :=
  ⟨h.1, h.2.1.narrow hAB, h.2.2.1.narrow hAB, h.2.2.2.1.narrow hAB, h.2.2.2.2.1.narrow hAB, h.2.2.2.2.2.narrow hAB⟩
/-- the start of a contract whose body stands on jU -/
def jPS (sa sb : Nat) (D : va_G) (cy : jC) (as : List Value) (Z : jZ) (I : jI) (L : jL) (sz : Nat) : Array Value → State → Prop := va_Pc as (fun U => U.heap.size = sz ∧ va_P D vwCl (jw cy Z I L) U.heap ∧ va_K D vwCl (jtys cy) U ∧ va_D (fun _ => True) (jw cy Z I L) ∧ jN U ∧ jU sa sb (va_A (jw cy Z I L) sz) U U.heap)
theorem jPS_blind {sa sb : Nat} {as : List Value} {D : va_G} {cy : jC} {Z : jZ} {I : jI} {L : jL} {sz : Nat} : FrameBlind (jPS sa sb D cy as Z I L sz) := by
  intro a U g mk q
  obtain ⟨q0, q1, qP, qK, qD, qN, qV⟩ := q
  exact ⟨q0, q1, qP, va_K.moved (u := U) (U := U.calling g mk a) (Vm.Alike.refl U.vm) qK, qD, jN_same (s := U) rfl qN, jU.warm (s := U) (U := U.calling g mk a) (State.WarmedH.refl U) qV⟩
def jCtS (sa sb : Nat) (l : Launch) (y : MethodName) (ws : List Cond) (rm : Room) (D : va_G) (cy : jC) (as : List Value) (Z : jZ) (I : jI) (L : jL) (Rt : jRt) : Prop :=
  ∀ sz : Nat, Met l y ws rm (jPS sa sb D cy as Z I L sz) (jQ D cy Rt (va_A (jw cy Z I L) sz)) rm.cells rm.slots (va_A (jw cy Z I L) sz)
/-- an int comes back, nothing else has changed -/
def rS (Z : jZ) (I : jI) (L : jL) (P : Int32 → Prop) : jRt := fun v Z' I' L' => Z = Z' ∧ I = I' ∧ L = L' ∧ ∃ r : Int32, v = some (.int r) ∧ P r
section JSTR
variable {G : jG} {cc : ByteArray} {own : String} {Ts : List Cond} {nL : Nat} {ret : Option FieldType} {rm : Room} {Rt : jRt} {pc : Nat} {lv : List (Nat × Value)} {st : List Value} {Z : jZ} {I : jI} {L : jL} {k n sa sb : Nat}
theorem jCtS_of {l : Launch} {y : MethodName} {ws ws' : List Cond} {rm : Room} {D : va_G} {cy : jC} {as : List Value} {Rt : jRt} {cc : ByteArray} {maxL : Nat} {ret : Option FieldType} (hy : plainName y.cls = true) (hw : ws = Cond.code y cc maxL ret :: ws') (hlen : (lg_sl as).length ≤ maxL)
    (h : ∀ G : jG, gD G = D → gY G = cy → gL G = l → jE G cc y.cls ws maxL ret rm Rt → jU sa sb (gA G) (gS G) (gS G).heap → jJ G maxL 0 (lv_args 0 as) [] Z I L 0 0) : jCtS sa sb l y ws rm D cy as Z I L Rt := by
  intro sz
  refine Met.ofW (cc := cc) (maxL := maxL) (ret := ret) hy hw ?_
  intro p e s m args below meth c s₁ B hml hv
  obtain ⟨rfl, hsz, hP, hK, hD0, hN, hU⟩ := hv
  subst hsz
  have hD := hD0.self (sz := s.heap.size)
  have hown : s.vm.findClass y.cls = some m.cls := findClass_of_methodNamed B.named
  have hl := lv_entry as (n := maxL) hlen
  rw [lg_entry_eq]
  generalize (lg_sl as ++ List.replicate (maxL - (lg_sl as).length) Slot.unset).toArray = ls at hl ⊢
  have key := h ((p, l, e, (headSpec ws rm).room, s, m, as.toArray, below, meth, c), D, cy, [], va_A (jw cy Z I L) s.heap.size, MQ below (jQ D cy Rt (va_A (jw cy Z I L) s.heap.size)) as.toArray s rm.cells rm.slots (va_A (jw cy Z I L) s.heap.size)) rfl rfl rfl
    ⟨⟨B.exec, B.bytes, hml, hown, atoms_spec (ws := ws) B.pre⟩, hK, fun q h => Or.inr h, hN, B.returns, B.notSynchronized, rfl, fun _ h => h⟩ hU
  exact key s.heap [] ls hl hP hD va_S.rf
theorem j_frS (E : jE G cc own Ts nL ret rm Rt) {H : Heap} {locs : List Loc} (hD : va_D (gA G) (gX G ++ jw (gY G) Z I L)) (hS : va_S (gA G) (gS G).heap H locs) : ∀ q, va_A (jw (gY G) Z I L) H.size q → gA G q := by
  intro q hq
  rcases hq with ⟨k9, e9, h9⟩ | h9
  · exact (j_cutD hD).2 k9 _ h9
  · exact E.2.2.1 q (Nat.le_trans hS.1 h9)
/-- a call on a cell of the pool -/
theorem j_callVS (E : jE G cc own Ts nL ret rm Rt) (hU : jU sa sb (gA G) (gS G) (gS G).heap) {y : MethodName} {ws ws' : List Cond} {rm' : Room} {bytes : ByteArray} {maxL : Nat} {ret' : Option FieldType} {C : String} {T : u_T} {N i b c na : Nat} {Rt' : jRt} (As rest : List Value)
    (hM : jCtS sa sb (gL G) y ws rm' (gD G) (gY G) (.ref b :: As) Z I L Rt') (hg : GoodIn Ts (wsV own i C y ws)) (hw : ws = Cond.code y bytes maxL ret' :: ws')
    (hd : y.cls = C ∧ y.cls ≠ "java/lang/invoke/MethodHandle" ∧ y.cls ≠ "java/lang/invoke/VarHandle" ∧ (parseMethodDescriptor y.desc).map (fun d => d.parameters.length) = some na)
    (hR : rm'.frames + 1 ≤ rm.frames ∧ 8 + (maxL + 11) + rm'.locals ≤ rm.locals) (hcl : vwCl[c]? = some (C, T, N)) (hc : c < 13) (hk : jk Z b c) (hn : As.length = na) (hst : st = As.reverse ++ .ref b :: rest) (hcat : (rest.map fun v => v.category).sum ≤ 8)
    (hf : k + rm'.cells ≤ rm.cells ∧ n + rm'.slots ≤ rm.slots) (d : decode cc pc = .ok (.invokevirtual i, 3))
    (kk : ∀ v Z' I' L', Rt' v Z' I' L' → jJ G nL (pc + 3) lv (v.toList ++ rest) Z' I' L' (k + rm'.cells) (n + rm'.slots)) : jJ G nL pc lv st Z I L k n := by
  intro H locs ls hl hP hD hS
  have eR := E.2.2.2.2.2.2.1
  obtain ⟨q, hq⟩ := jw_get (X := gX G) (cy := gY G) (I := I) (L := L) hk.1
  rw [jf_obj hk.2 hc] at hq
  have hrun := va_runV (p := gP G) (l := gL G) (e := gE G) (R := gR G) (s := gS G) (m := gM G) (args := gV G) (below := gB G) (meth := gH G) (c := gC G) (H := H) (locs := locs) (cells := k) (slots := n) (g := F0 (gM G) pc ls st) (As := As) (rest := rest) E.1 (hM H.size) (cwV na E.1.2.2.2.2 hg hw rfl rfl hd (by rw [eR]; exact hR))
    ⟨jPS_blind, va_recv E.2.1 hP hcl hq, fun U hU' hW => ⟨rfl, by rw [hU'], by rw [hU']; exact j_cutP hP, va_K.moved hW.alike E.2.1, (j_cutD hD).weaken (fun _ _ _ _ => trivial), jN_warm hW E.2.2.2.1, by rw [hU']; exact ((hU.kept hS.2.1).narrow (j_frS E hD hS)).warm hW⟩⟩ rfl hn hl.1 hst (lv_room hcat) d (by rw [eR]; exact hf)
  exact j_back E hrun hl hP hD hS kk
/-- a call on the String -/
theorem j_callVT (E : jE G cc own Ts nL ret rm Rt) (hU : jU sa sb (gA G) (gS G) (gS G).heap) {y : MethodName} {ws ws' : List Cond} {rm' : Room} {bytes : ByteArray} {maxL : Nat} {ret' : Option FieldType} {i na : Nat} {Rt' : jRt} (As rest : List Value)
    (hM : jCtS sa sb (gL G) y ws rm' (gD G) (gY G) (.ref sa :: As) Z I L Rt') (hg : GoodIn Ts (wsV own i RJ0 y ws)) (hw : ws = Cond.code y bytes maxL ret' :: ws')
    (hd : y.cls = RJ0 ∧ y.cls ≠ "java/lang/invoke/MethodHandle" ∧ y.cls ≠ "java/lang/invoke/VarHandle" ∧ (parseMethodDescriptor y.desc).map (fun d => d.parameters.length) = some na)
    (hR : rm'.frames + 1 ≤ rm.frames ∧ 8 + (maxL + 11) + rm'.locals ≤ rm.locals) (hn : As.length = na) (hst : st = As.reverse ++ .ref sa :: rest) (hcat : (rest.map fun v => v.category).sum ≤ 8)
    (hf : k + rm'.cells ≤ rm.cells ∧ n + rm'.slots ≤ rm.slots) (d : decode cc pc = .ok (.invokevirtual i, 3))
    (kk : ∀ v Z' I' L', Rt' v Z' I' L' → jJ G nL (pc + 3) lv (v.toList ++ rest) Z' I' L' (k + rm'.cells) (n + rm'.slots)) : jJ G nL pc lv st Z I L k n := by
  intro H locs ls hl hP hD hS
  have eR := E.2.2.2.2.2.2.1
  have hrec : ∃ cell : Cell, H[sa]? = some cell ∧ cell.vm.isStatics = false ∧ (gS G).vm.findClass RJ0 = some cell.cls := by
    obtain ⟨cell, h1, h2, h3, -⟩ := hU.2.1.kept hS.2.1
    exact ⟨cell, h1, h2, h3⟩
  have hrun := va_runV (p := gP G) (l := gL G) (e := gE G) (R := gR G) (s := gS G) (m := gM G) (args := gV G) (below := gB G) (meth := gH G) (c := gC G) (H := H) (locs := locs) (cells := k) (slots := n) (g := F0 (gM G) pc ls st) (As := As) (rest := rest) E.1 (hM H.size) (cwV na E.1.2.2.2.2 hg hw rfl rfl hd (by rw [eR]; exact hR))
    ⟨jPS_blind, hrec, fun U hU' hW => ⟨rfl, by rw [hU'], by rw [hU']; exact j_cutP hP, va_K.moved hW.alike E.2.1, (j_cutD hD).weaken (fun _ _ _ _ => trivial), jN_warm hW E.2.2.2.1, by rw [hU']; exact ((hU.kept hS.2.1).narrow (j_frS E hD hS)).warm hW⟩⟩ rfl hn hl.1 hst (lv_room hcat) d (by rw [eR]; exact hf)
  exact j_back E hrun hl hP hD hS kk
/-- a static call -/
theorem j_callST (E : jE G cc own Ts nL ret rm Rt) (hU : jU sa sb (gA G) (gS G) (gS G).heap) {y : MethodName} {ws ws' : List Cond} {rm' : Room} {bytes : ByteArray} {maxL : Nat} {ret' : Option FieldType} {i na : Nat} {Rt' : jRt} (As rest : List Value)
    (hM : jCtS sa sb (gL G) y ws rm' (gD G) (gY G) As Z I L Rt') (hg : GoodIn Ts (va_wsS own i y ws)) (hw : ws = Cond.code y bytes maxL ret' :: ws')
    (hd : y.cls ≠ "java/lang/invoke/MethodHandle" ∧ y.cls ≠ "java/lang/invoke/VarHandle" ∧ (parseMethodDescriptor y.desc).map (fun d => d.parameters.length) = some na)
    (hR : rm'.frames + 1 ≤ rm.frames ∧ 8 + (maxL + 11) + rm'.locals ≤ rm.locals) (hn : As.length = na) (hst : st = As.reverse ++ rest) (hcat : (rest.map fun v => v.category).sum ≤ 8)
    (hf : k + rm'.cells ≤ rm.cells ∧ n + rm'.slots ≤ rm.slots) (d : decode cc pc = .ok (.invokestatic i, 3))
    (kk : ∀ v Z' I' L', Rt' v Z' I' L' → jJ G nL (pc + 3) lv (v.toList ++ rest) Z' I' L' (k + rm'.cells) (n + rm'.slots)) : jJ G nL pc lv st Z I L k n := by
  intro H locs ls hl hP hD hS
  have eR := E.2.2.2.2.2.2.1
  have hrun := va_runS (p := gP G) (l := gL G) (e := gE G) (R := gR G) (s := gS G) (m := gM G) (args := gV G) (below := gB G) (meth := gH G) (c := gC G) (H := H) (locs := locs) (cells := k) (slots := n) (g := F0 (gM G) pc ls st) (As := As) (rest := rest) E.1 (hM H.size) (va_cwS na E.1.2.2.2.2 hg hw rfl rfl hd (by rw [eR]; exact hR))
    ⟨jPS_blind, fun U hU' hW => ⟨rfl, by rw [hU'], by rw [hU']; exact j_cutP hP, va_K.moved hW.alike E.2.1, (j_cutD hD).weaken (fun _ _ _ _ => trivial), jN_warm hW E.2.2.2.1, by rw [hU']; exact ((hU.kept hS.2.1).narrow (j_frS E hD hS)).warm hW⟩⟩ rfl hn hl.1 hst (lv_room hcat) d (by rw [eR]; exact hf)
  exact j_back E hrun hl hP hD hS kk
theorem j_ldcS (E : jE G cc RX3 Ts nL ret rm Rt) (hU : jU sa sb (gA G) (gS G) (gS G).heap) (d : decode cc pc = .ok (.ldc 91, 2)) (kk : jJ G nL (pc + 2) lv (.ref sa :: st) Z I L k n) : jJ G nL pc lv st Z I L k n :=
  fun H locs ls hl hP hD hS => va_ldcS E.1.1 E.1.2.1 E.1.2.2.2.1 hU.1 d (kk H locs ls hl hP hD hS)
theorem j_gsS (E : jE G cc own Ts nL ret rm Rt) (hU : jU sa sb (gA G) (gS G) (gS G).heap) {i : Nat} (w : Cond.fieldLink own i "java/lang/String" "COMPACT_STRINGS" "Z" ∈ Ts) (d : decode cc pc = .ok (.getstatic i, 3)) (kk : jJ G nL (pc + 3) lv (.int 1 :: st) Z I L k n) : jJ G nL pc lv st Z I L k n :=
  fun H locs ls hl hP hD hS => va_gets E.1.1 E.1.2.1 hU.2.2.2.2.2 hS E.1.2.2.2.1 (E.1.2.2.2.2 _ w) (fun _ h => h) d (kk H locs ls hl hP hD hS)
theorem j_cdS (E : jE G cc own Ts nL ret rm Rt) (hU : jU sa sb (gA G) (gS G) (gS G).heap) {i : Nat} (w : Cond.fieldLink own i "java/lang/String" "coder" "B" ∈ Ts) (d : decode cc pc = .ok (.getfield i, 3)) (kk : jJ G nL (pc + 3) lv (.int 0 :: st) Z I L k n) : jJ G nL pc lv (.ref sa :: st) Z I L k n :=
  fun H locs ls hl hP hD hS => vk_getf E.1.1 E.1.2.1 hU.2.2.1 hS E.1.2.2.2.1 (E.1.2.2.2.2 _ w) (fun _ h => h) d (kk H locs ls hl hP hD hS)
theorem j_vlS (E : jE G cc own Ts nL ret rm Rt) (hU : jU sa sb (gA G) (gS G) (gS G).heap) {i : Nat} (w : Cond.fieldLink own i "java/lang/String" "value" "[B" ∈ Ts) (d : decode cc pc = .ok (.getfield i, 3)) (kk : jJ G nL (pc + 3) lv (.ref sb :: st) Z I L k n) : jJ G nL pc lv (.ref sa :: st) Z I L k n :=
  fun H locs ls hl hP hD hS => vk_getf E.1.1 E.1.2.1 hU.2.2.2.1 hS E.1.2.2.2.1 (E.1.2.2.2.2 _ w) (fun _ h => h) d (kk H locs ls hl hP hD hS)
theorem j_lnS (E : jE G cc own Ts nL ret rm Rt) (hU : jU sa sb (gA G) (gS G) (gS G).heap) (d : decode cc pc = .ok (.arraylength, 1)) (kk : jJ G nL (pc + 1) lv (.int 7 :: st) Z I L k n) : jJ G nL pc lv (.ref sb :: st) Z I L k n :=
  fun H locs ls hl hP hD hS => va_tlen E.1.1 E.1.2.1 hU.2.2.2.2.1 hS rfl d (kk H locs ls hl hP hD hS)
theorem j_blS (E : jE G cc own Ts nL ret rm Rt) (hU : jU sa sb (gA G) (gS G) (gS G).heap) {i : Int32} (hin : vp_in i 7) (d : decode cc pc = .ok (.baload, 1)) (kk : jJ G nL (pc + 1) lv (.int (jlet.getD i.toNatClampNeg 0) :: st) Z I L k n) : jJ G nL pc lv (.int i :: .ref sb :: st) Z I L k n :=
  fun H locs ls hl hP hD hS => va_tb E.1.1 E.1.2.1 hU.2.2.2.2.1 hS hin rfl d (kk H locs ls hl hP hD hS)
theorem j_xreturn {ty : FieldType} (E : jE G cc own Ts nL (some ty) rm Rt) {v : Int32} (hv : narrow ty (.int v) = .int v) (h : Rt (some (.int v)) Z I L) (h1 : k ≤ rm.cells) (h2 : n ≤ rm.slots) (d : decode cc pc = .ok (.ireturn, 1)) : jJ G nL pc lv [.int v] Z I L k n := by
  intro H locs ls hl hP hD hS
  refine W.mono E.2.2.2.2.2.2.2 ?_
  refine W.widen h1 h2 ?_
  exact W.zret E.1.1 E.1.2.1 E.2.2.2.2.1 hv (fun t ht hW => ⟨⟨_, Z, I, L, rfl, h, by rw [ht]; exact j_cutP hP, va_K.moved hW.alike E.2.1, j_cutD hD⟩, hS.F ht⟩) hS.2.2 d E.2.2.2.2.2.1
end JSTR
theorem WS_1209 : Cond.methodLink RJ1 88 yJ1_canEncode_9a6ad ∈ jT := jT_mem (mt_3 (List.mem_of_getElem? (i := 85) rfl)) rfl
theorem WS_1210 : Cond.static yJ1_canEncode_9a6ad ∈ jT := jT_mem (mt_3 (List.mem_of_getElem? (i := 86) rfl)) rfl
theorem WS_1211 : Cond.initialized RJ1 ∈ jT := jT_mem (mt_1 (List.mem_of_getElem? (i := 16) rfl)) rfl
theorem WS_1212 : Cond.code yJ1_canEncode_9a6ad cJ1_canEncode_9a6ad 1 (some .boolean) ∈ jT := jT_mem (mt_3 (List.mem_of_getElem? (i := 87) rfl)) rfl
theorem WS_1213 : Cond.methodLink RJ1 92 Lib.Math.max.name ∈ jT := jT_mem (mt_3 (List.mem_of_getElem? (i := 88) rfl)) rfl
theorem WS_1214 : Cond.methodLink RJ1 38 Lib.Math.min.name ∈ jT := jT_mem (mt_3 (List.mem_of_getElem? (i := 91) rfl)) rfl
theorem WS_1215 : Cond.methodLink RJ1 95 yJ1_indexOfChar_4cfef ∈ jT := jT_mem (mt_3 (List.mem_of_getElem? (i := 92) rfl)) rfl
theorem WS_1216 : Cond.static yJ1_indexOfChar_4cfef ∈ jT := jT_mem (mt_3 (List.mem_of_getElem? (i := 93) rfl)) rfl
theorem WS_1217 : Cond.code yJ1_indexOfChar_4cfef cJ1_indexOfChar_4cfef 6 (some .int) ∈ jT := jT_mem (mt_3 (List.mem_of_getElem? (i := 94) rfl)) rfl
theorem WS_1218 : Cond.fieldLink RJ0 38 "java/lang/String" "COMPACT_STRINGS" "Z" ∈ jT := jT_mem (mt_3 (List.mem_of_getElem? (i := 72) rfl)) rfl
theorem WS_1219 : Cond.fieldLink RJ0 15 "java/lang/String" "coder" "B" ∈ jT := jT_mem (mt_9 (List.mem_of_getElem? (i := 151) rfl)) rfl
theorem WS_1220 : Cond.fieldLink RJ0 9 "java/lang/String" "value" "[B" ∈ jT := jT_mem (mt_9 (List.mem_of_getElem? (i := 152) rfl)) rfl
theorem WS_1221 : Cond.methodLink RJ0 335 yJ0_coder_7d493 ∈ jT := jT_mem (mt_3 (List.mem_of_getElem? (i := 78) rfl)) rfl
theorem WS_1222 : Cond.instanceMethod yJ0_coder_7d493 ∈ jT := jT_mem (mt_3 (List.mem_of_getElem? (i := 79) rfl)) rfl
theorem WS_1223 : Cond.selects RJ0 yJ0_coder_7d493 yJ0_coder_7d493 ∈ jT := jT_mem (mt_3 (List.mem_of_getElem? (i := 80) rfl)) rfl
theorem WS_1224 : Cond.initialized RJ0 ∈ jT := jT_mem (mt_1 (List.mem_of_getElem? (i := 15) rfl)) rfl
theorem WS_1225 : Cond.code yJ0_coder_7d493 cJ0_coder_7d493 1 (some .byte) ∈ jT := jT_mem (mt_3 (List.mem_of_getElem? (i := 81) rfl)) rfl
theorem WS_1226 : Cond.methodLink RJ0 492 yJ0_isLatin1_aae02 ∈ jT := jT_mem (mt_3 (List.mem_of_getElem? (i := 68) rfl)) rfl
theorem WS_1227 : Cond.instanceMethod yJ0_isLatin1_aae02 ∈ jT := jT_mem (mt_3 (List.mem_of_getElem? (i := 69) rfl)) rfl
theorem WS_1228 : Cond.selects RJ0 yJ0_isLatin1_aae02 yJ0_isLatin1_aae02 ∈ jT := jT_mem (mt_3 (List.mem_of_getElem? (i := 70) rfl)) rfl
theorem WS_1229 : Cond.code yJ0_isLatin1_aae02 cJ0_isLatin1_aae02 1 (some .boolean) ∈ jT := jT_mem (mt_3 (List.mem_of_getElem? (i := 71) rfl)) rfl
theorem WS_1230 : Cond.methodLink RJ0 505 yJ0_length_8abf5 ∈ jT := jT_mem (mt_3 (List.mem_of_getElem? (i := 74) rfl)) rfl
theorem WS_1231 : Cond.instanceMethod yJ0_length_8abf5 ∈ jT := jT_mem (mt_3 (List.mem_of_getElem? (i := 75) rfl)) rfl
theorem WS_1232 : Cond.selects RJ0 yJ0_length_8abf5 yJ0_length_8abf5 ∈ jT := jT_mem (mt_3 (List.mem_of_getElem? (i := 76) rfl)) rfl
theorem WS_1233 : Cond.code yJ0_length_8abf5 cJ0_length_8abf5 1 (some .int) ∈ jT := jT_mem (mt_3 (List.mem_of_getElem? (i := 77) rfl)) rfl
theorem WS_1234 : Cond.methodLink RJ0 637 yJ1_indexOf_4cfef ∈ jT := jT_mem (mt_3 (List.mem_of_getElem? (i := 82) rfl)) rfl
theorem WS_1235 : Cond.static yJ1_indexOf_4cfef ∈ jT := jT_mem (mt_3 (List.mem_of_getElem? (i := 83) rfl)) rfl
theorem WS_1236 : Cond.code yJ1_indexOf_4cfef cJ1_indexOf_4cfef 4 (some .int) ∈ jT := jT_mem (mt_3 (List.mem_of_getElem? (i := 84) rfl)) rfl
theorem WS_1237 : Cond.methodLink RJ0 633 yJ0_indexOf_7cf53 ∈ jT := jT_mem (mt_3 (List.mem_of_getElem? (i := 64) rfl)) rfl
theorem WS_1238 : Cond.instanceMethod yJ0_indexOf_7cf53 ∈ jT := jT_mem (mt_3 (List.mem_of_getElem? (i := 65) rfl)) rfl
theorem WS_1239 : Cond.selects RJ0 yJ0_indexOf_7cf53 yJ0_indexOf_7cf53 ∈ jT := jT_mem (mt_3 (List.mem_of_getElem? (i := 66) rfl)) rfl
theorem WS_1240 : Cond.code yJ0_indexOf_7cf53 cJ0_indexOf_7cf53 3 (some .int) ∈ jT := jT_mem (mt_3 (List.mem_of_getElem? (i := 67) rfl)) rfl
theorem WS_1241 : Cond.code yX3_readExpression cX3_readExpression 4 none ∈ jT := jT_mem (mt_3 (List.mem_of_getElem? (i := 33) rfl)) rfl
theorem WS_1242 : Cond.methodLink RX3 53 yX3_readExpression ∈ jT := jT_mem (mt_3 (List.mem_of_getElem? (i := 30) rfl)) rfl
theorem WS_1243 : Cond.instanceMethod yX3_readExpression ∈ jT := jT_mem (mt_3 (List.mem_of_getElem? (i := 32) rfl)) rfl
theorem WS_1244 : Cond.selects RX3 yX3_readExpression yX3_readExpression ∈ jT := jT_mem (mt_0 (List.mem_of_getElem? (i := 12) rfl)) rfl
theorem WS_1245 : Cond.code yX3_readClosing cX3_readClosing 2 none ∈ jT := jT_mem (mt_3 (List.mem_of_getElem? (i := 156) rfl)) rfl
theorem WS_1246 : Cond.methodLink RX3 106 yX3_readClosing ∈ jT := jT_mem (mt_3 (List.mem_of_getElem? (i := 153) rfl)) rfl
theorem WS_1247 : Cond.instanceMethod yX3_readClosing ∈ jT := jT_mem (mt_3 (List.mem_of_getElem? (i := 155) rfl)) rfl
theorem WS_1248 : Cond.selects RX3 yX3_readClosing yX3_readClosing ∈ jT := jT_mem (mt_0 (List.mem_of_getElem? (i := 21) rfl)) rfl
theorem WS_1249 : Cond.code yX3_readNumber cX3_readNumber 4 none ∈ jT := jT_mem (mt_3 (List.mem_of_getElem? (i := 148) rfl)) rfl
theorem WS_1250 : Cond.methodLink RX3 102 yX3_readNumber ∈ jT := jT_mem (mt_3 (List.mem_of_getElem? (i := 145) rfl)) rfl
theorem WS_1251 : Cond.instanceMethod yX3_readNumber ∈ jT := jT_mem (mt_3 (List.mem_of_getElem? (i := 147) rfl)) rfl
theorem WS_1252 : Cond.selects RX3 yX3_readNumber yX3_readNumber ∈ jT := jT_mem (mt_0 (List.mem_of_getElem? (i := 19) rfl)) rfl
theorem WS_1253 : Cond.methodLink RX3 93 yJ0_indexOf_0f7a4 ∈ jT := jT_mem (mt_3 (List.mem_of_getElem? (i := 60) rfl)) rfl
theorem WS_1254 : Cond.instanceMethod yJ0_indexOf_0f7a4 ∈ jT := jT_mem (mt_3 (List.mem_of_getElem? (i := 61) rfl)) rfl
theorem WS_1255 : Cond.selects RJ0 yJ0_indexOf_0f7a4 yJ0_indexOf_0f7a4 ∈ jT := jT_mem (mt_3 (List.mem_of_getElem? (i := 62) rfl)) rfl
theorem WS_1256 : Cond.code yJ0_indexOf_0f7a4 cJ0_indexOf_0f7a4 2 (some .int) ∈ jT := jT_mem (mt_3 (List.mem_of_getElem? (i := 63) rfl)) rfl
theorem WS_1257 : Cond.code yX3_readThing cX3_readThing 5 none ∈ jT := jT_mem (mt_3 (List.mem_of_getElem? (i := 58) rfl)) rfl
theorem WS_1258 : Cond.methodLink RX3 88 yX3_readThing ∈ jT := jT_mem (mt_3 (List.mem_of_getElem? (i := 55) rfl)) rfl
theorem WS_1259 : Cond.instanceMethod yX3_readThing ∈ jT := jT_mem (mt_3 (List.mem_of_getElem? (i := 57) rfl)) rfl
theorem WS_1260 : Cond.selects RX3 yX3_readThing yX3_readThing ∈ jT := jT_mem (mt_0 (List.mem_of_getElem? (i := 18) rfl)) rfl
theorem WS_1261 : Cond.code yX3_readSigned cX3_readSigned 5 none ∈ jT := jT_mem (mt_3 (List.mem_of_getElem? (i := 45) rfl)) rfl
theorem WS_1262 : Cond.methodLink RX3 85 yX3_readSigned ∈ jT := jT_mem (mt_3 (List.mem_of_getElem? (i := 42) rfl)) rfl
theorem WS_1263 : Cond.instanceMethod yX3_readSigned ∈ jT := jT_mem (mt_3 (List.mem_of_getElem? (i := 44) rfl)) rfl
theorem WS_1264 : Cond.selects RX3 yX3_readSigned yX3_readSigned ∈ jT := jT_mem (mt_0 (List.mem_of_getElem? (i := 15) rfl)) rfl
theorem WS_1265 : Cond.code yX3_readProduct cX3_readProduct 5 none ∈ jT := jT_mem (mt_3 (List.mem_of_getElem? (i := 41) rfl)) rfl
theorem WS_1266 : Cond.methodLink RX3 82 yX3_readProduct ∈ jT := jT_mem (mt_3 (List.mem_of_getElem? (i := 38) rfl)) rfl
theorem WS_1267 : Cond.instanceMethod yX3_readProduct ∈ jT := jT_mem (mt_3 (List.mem_of_getElem? (i := 40) rfl)) rfl
theorem WS_1268 : Cond.selects RX3 yX3_readProduct yX3_readProduct ∈ jT := jT_mem (mt_0 (List.mem_of_getElem? (i := 14) rfl)) rfl
theorem WS_1269 : Cond.code yX3_readSum cX3_readSum 5 none ∈ jT := jT_mem (mt_3 (List.mem_of_getElem? (i := 37) rfl)) rfl
theorem WS_1270 : Cond.methodLink RX3 71 yX3_readSum ∈ jT := jT_mem (mt_3 (List.mem_of_getElem? (i := 34) rfl)) rfl
theorem WS_1271 : Cond.instanceMethod yX3_readSum ∈ jT := jT_mem (mt_3 (List.mem_of_getElem? (i := 36) rfl)) rfl
theorem WS_1272 : Cond.selects RX3 yX3_readSum yX3_readSum ∈ jT := jT_mem (mt_0 (List.mem_of_getElem? (i := 13) rfl)) rfl
theorem fy_J0_coder_7d493 : yJ0_coder_7d493.cls ≠ "java/lang/invoke/MethodHandle" ∧ yJ0_coder_7d493.cls ≠ "java/lang/invoke/VarHandle" ∧ (parseMethodDescriptor yJ0_coder_7d493.desc).map (fun d => d.parameters.length) = some 0 := by decide +kernel
theorem fy_J0_indexOf_0f7a4 : yJ0_indexOf_0f7a4.cls ≠ "java/lang/invoke/MethodHandle" ∧ yJ0_indexOf_0f7a4.cls ≠ "java/lang/invoke/VarHandle" ∧ (parseMethodDescriptor yJ0_indexOf_0f7a4.desc).map (fun d => d.parameters.length) = some 1 := by decide +kernel
theorem fy_J0_indexOf_7cf53 : yJ0_indexOf_7cf53.cls ≠ "java/lang/invoke/MethodHandle" ∧ yJ0_indexOf_7cf53.cls ≠ "java/lang/invoke/VarHandle" ∧ (parseMethodDescriptor yJ0_indexOf_7cf53.desc).map (fun d => d.parameters.length) = some 2 := by decide +kernel
theorem fy_J0_isLatin1_aae02 : yJ0_isLatin1_aae02.cls ≠ "java/lang/invoke/MethodHandle" ∧ yJ0_isLatin1_aae02.cls ≠ "java/lang/invoke/VarHandle" ∧ (parseMethodDescriptor yJ0_isLatin1_aae02.desc).map (fun d => d.parameters.length) = some 0 := by decide +kernel
theorem fy_J0_length_8abf5 : yJ0_length_8abf5.cls ≠ "java/lang/invoke/MethodHandle" ∧ yJ0_length_8abf5.cls ≠ "java/lang/invoke/VarHandle" ∧ (parseMethodDescriptor yJ0_length_8abf5.desc).map (fun d => d.parameters.length) = some 0 := by decide +kernel
theorem fy_J1_canEncode_9a6ad : yJ1_canEncode_9a6ad.cls ≠ "java/lang/invoke/MethodHandle" ∧ yJ1_canEncode_9a6ad.cls ≠ "java/lang/invoke/VarHandle" ∧ (parseMethodDescriptor yJ1_canEncode_9a6ad.desc).map (fun d => d.parameters.length) = some 1 := by decide +kernel
theorem fy_J1_indexOfChar_4cfef : yJ1_indexOfChar_4cfef.cls ≠ "java/lang/invoke/MethodHandle" ∧ yJ1_indexOfChar_4cfef.cls ≠ "java/lang/invoke/VarHandle" ∧ (parseMethodDescriptor yJ1_indexOfChar_4cfef.desc).map (fun d => d.parameters.length) = some 4 := by decide +kernel
theorem fy_J1_indexOf_4cfef : yJ1_indexOf_4cfef.cls ≠ "java/lang/invoke/MethodHandle" ∧ yJ1_indexOf_4cfef.cls ≠ "java/lang/invoke/VarHandle" ∧ (parseMethodDescriptor yJ1_indexOf_4cfef.desc).map (fun d => d.parameters.length) = some 4 := by decide +kernel
theorem fy_X3_readClosing : yX3_readClosing.cls ≠ "java/lang/invoke/MethodHandle" ∧ yX3_readClosing.cls ≠ "java/lang/invoke/VarHandle" ∧ (parseMethodDescriptor yX3_readClosing.desc).map (fun d => d.parameters.length) = some 1 := by decide +kernel
theorem fy_X3_readExpression : yX3_readExpression.cls ≠ "java/lang/invoke/MethodHandle" ∧ yX3_readExpression.cls ≠ "java/lang/invoke/VarHandle" ∧ (parseMethodDescriptor yX3_readExpression.desc).map (fun d => d.parameters.length) = some 2 := by decide +kernel
theorem fy_X3_readNumber : yX3_readNumber.cls ≠ "java/lang/invoke/MethodHandle" ∧ yX3_readNumber.cls ≠ "java/lang/invoke/VarHandle" ∧ (parseMethodDescriptor yX3_readNumber.desc).map (fun d => d.parameters.length) = some 1 := by decide +kernel
theorem fy_X3_readProduct : yX3_readProduct.cls ≠ "java/lang/invoke/MethodHandle" ∧ yX3_readProduct.cls ≠ "java/lang/invoke/VarHandle" ∧ (parseMethodDescriptor yX3_readProduct.desc).map (fun d => d.parameters.length) = some 2 := by decide +kernel
theorem fy_X3_readSigned : yX3_readSigned.cls ≠ "java/lang/invoke/MethodHandle" ∧ yX3_readSigned.cls ≠ "java/lang/invoke/VarHandle" ∧ (parseMethodDescriptor yX3_readSigned.desc).map (fun d => d.parameters.length) = some 2 := by decide +kernel
theorem fy_X3_readSum : yX3_readSum.cls ≠ "java/lang/invoke/MethodHandle" ∧ yX3_readSum.cls ≠ "java/lang/invoke/VarHandle" ∧ (parseMethodDescriptor yX3_readSum.desc).map (fun d => d.parameters.length) = some 2 := by decide +kernel
theorem fy_X3_readThing : yX3_readThing.cls ≠ "java/lang/invoke/MethodHandle" ∧ yX3_readThing.cls ≠ "java/lang/invoke/VarHandle" ∧ (parseMethodDescriptor yX3_readThing.desc).map (fun d => d.parameters.length) = some 2 := by decide +kernel
abbrev w_J0_coder_7d493 : List Cond := .code yJ0_coder_7d493 cJ0_coder_7d493 1 (some .byte) :: jT
abbrev w_J0_indexOf_0f7a4 : List Cond := .code yJ0_indexOf_0f7a4 cJ0_indexOf_0f7a4 2 (some .int) :: jT
abbrev w_J0_indexOf_7cf53 : List Cond := .code yJ0_indexOf_7cf53 cJ0_indexOf_7cf53 3 (some .int) :: jT
abbrev w_J0_isLatin1_aae02 : List Cond := .code yJ0_isLatin1_aae02 cJ0_isLatin1_aae02 1 (some .boolean) :: jT
abbrev w_J0_length_8abf5 : List Cond := .code yJ0_length_8abf5 cJ0_length_8abf5 1 (some .int) :: jT
abbrev w_J1_canEncode_9a6ad : List Cond := .code yJ1_canEncode_9a6ad cJ1_canEncode_9a6ad 1 (some .boolean) :: jT
abbrev w_J1_indexOfChar_4cfef : List Cond := .code yJ1_indexOfChar_4cfef cJ1_indexOfChar_4cfef 6 (some .int) :: jT
abbrev w_J1_indexOf_4cfef : List Cond := .code yJ1_indexOf_4cfef cJ1_indexOf_4cfef 4 (some .int) :: jT
abbrev w_X3_readExpression : List Cond := .code yX3_readExpression cX3_readExpression 4 none :: jT
abbrev w_X3_readProduct : List Cond := .code yX3_readProduct cX3_readProduct 5 none :: jT
abbrev w_X3_readSigned : List Cond := .code yX3_readSigned cX3_readSigned 5 none :: jT
abbrev w_X3_readSum : List Cond := .code yX3_readSum cX3_readSum 5 none :: jT
abbrev w_X3_readThing : List Cond := .code yX3_readThing cX3_readThing 5 none :: jT
set_option maxHeartbeats 4000000 in
theorem cs_canEncode (l : Launch) (D : va_G) (cy : jC) {sa sb : Nat} (Z : jZ) (I : jI) (L : jL) (c : Int32) : jCtS sa sb l yJ1_canEncode_9a6ad w_J1_canEncode_9a6ad { frames := 0, cells := 0, slots := 0, locals := 0 } D cy [.int c] Z I L (rS Z I L (fun r => r = 0 ∨ r = 1)) := by
  refine jCtS_of (cc := cJ1_canEncode_9a6ad) (maxL := 1) (ret := some .boolean) (by decide +kernel) rfl (Nat.le_of_ble_eq_true rfl) ?_
  intro G eD eY eL E hU
  subst eD; subst eY; subst eL
  have E : jE G cJ1_canEncode_9a6ad RJ1 w_J1_canEncode_9a6ad 1 (some .boolean) { frames := 0, cells := 0, slots := 0, locals := 0 } (rS Z I L (fun r => r = 0 ∨ r = 1)) := E
  show jJ G 1 0 [(0, .int c)] [] Z I L 0 0
  refine j_iload_n E dJ1_canEncode_9a6ad_0 0 rfl ?_
  refine j_if_lt E 15 dJ1_canEncode_9a6ad_1 (by decide) (fun c1 => ?_) (fun c1 => ?_)
  · refine j_iconst E (v := 0) dJ1_canEncode_9a6ad_15 (by decide) ?_
    exact j_zreturn E (Or.inl rfl) ⟨rfl, rfl, rfl, _, rfl, Or.inl rfl⟩ (Nat.zero_le _) (Nat.zero_le _) dJ1_canEncode_9a6ad_16
  refine j_iload_n E dJ1_canEncode_9a6ad_4 0 rfl ?_
  refine j_sipush E (v := 255) dJ1_canEncode_9a6ad_5 (by decide) ?_
  refine j_icmp_gt E 15 dJ1_canEncode_9a6ad_8 (by decide) (fun c2 => ?_) (fun c2 => ?_)
  · refine j_iconst E (v := 0) dJ1_canEncode_9a6ad_15 (by decide) ?_
    exact j_zreturn E (Or.inl rfl) ⟨rfl, rfl, rfl, _, rfl, Or.inl rfl⟩ (Nat.zero_le _) (Nat.zero_le _) dJ1_canEncode_9a6ad_16
  refine j_iconst E (v := 1) dJ1_canEncode_9a6ad_11 (by decide) ?_
  refine j_goto E 16 dJ1_canEncode_9a6ad_12 (by decide) ?_
  exact j_zreturn E (Or.inr rfl) ⟨rfl, rfl, rfl, _, rfl, Or.inr rfl⟩ (Nat.zero_le _) (Nat.zero_le _) dJ1_canEncode_9a6ad_16
set_option maxHeartbeats 4000000 in
theorem cs_ixLoop {G : jG} {sa sb : Nat} {Z : jZ} {I : jI} {L : jL} {mx x : Int32} (E : jE G cJ1_indexOfChar_4cfef RJ1 w_J1_indexOfChar_4cfef 6 (some .int) { frames := 0, cells := 0, slots := 0, locals := 0 } (rS Z I L (fun r => -1 ≤ r.toInt ∧ r.toInt ≤ 6))) (hU : jU sa sb (gA G) (gS G) (gS G).heap) (hm : mx.toInt ≤ 7) : ∀ (n : Nat) (i : Int32), 0 ≤ i.toInt → 7 - i.toInt < (n : Int) → i.toInt ≤ 7 → jJ G 6 7 [(5, .int i), (4, .int x), (0, .ref sb), (3, .int mx)] [] Z I L 0 0 := by
  intro n
  induction n with
  | zero => intro i h0 h1 h2; exfalso; omega
  | succ n ih =>
    intro i h0 h1 h2
    refine j_iload E dJ1_indexOfChar_4cfef_7 0 rfl ?_
    refine j_iload_n E dJ1_indexOfChar_4cfef_9 3 rfl ?_
    refine j_icmp_ge E 31 dJ1_indexOfChar_4cfef_10 (by decide) (fun c => ?_) (fun c => ?_)
    · refine j_iconst E (v := -1) dJ1_indexOfChar_4cfef_31 (by decide) ?_
      exact j_ireturn E ⟨rfl, rfl, rfl, _, rfl, by decide, by decide⟩ (Nat.zero_le _) (Nat.zero_le _) dJ1_indexOfChar_4cfef_32
    · have hc := (not_congr (i_le (x := mx) (y := i) rfl rfl)).mp c
      refine j_aload_n E dJ1_indexOfChar_4cfef_13 2 rfl ?_
      refine j_iload E dJ1_indexOfChar_4cfef_14 0 rfl ?_
      refine j_blS E hU (vi_of rfl (by omega) (by omega)) dJ1_indexOfChar_4cfef_16 ?_
      refine j_iload E dJ1_indexOfChar_4cfef_17 1 rfl ?_
      refine j_icmp_ne E 25 dJ1_indexOfChar_4cfef_19 (by decide) (fun c2 => ?_) (fun c2 => ?_)
      · obtain ⟨y, ey⟩ : ∃ y : Int32, y = i + 1 := ⟨_, rfl⟩
        refine j_iinc E y [(5, .int y), (4, .int x), (0, .ref sb), (3, .int mx)] dJ1_indexOfChar_4cfef_25 0 rfl (by rw [ey]; rfl) (by decide) rfl ?_
        refine j_goto E 7 dJ1_indexOfChar_4cfef_28 (by decide) ?_
        have hy : y.toInt = i.toInt + 1 := by rw [ey]; exact i_add rfl (show (1 : Int32).toInt = 1 from rfl) (by omega) (by omega)
        exact ih y (by omega) (by omega) (by omega)
      · refine j_iload E dJ1_indexOfChar_4cfef_22 0 rfl ?_
        exact j_ireturn E ⟨rfl, rfl, rfl, _, rfl, by omega, by omega⟩ (Nat.zero_le _) (Nat.zero_le _) dJ1_indexOfChar_4cfef_24
set_option maxHeartbeats 4000000 in
theorem cs_indexOfChar (l : Launch) (D : va_G) (cy : jC) {sa sb : Nat} (Z : jZ) (I : jI) (L : jL) (c f m : Int32) (h0 : 0 ≤ f.toInt) (h1 : f.toInt ≤ 7) (hm : m.toInt ≤ 7) : jCtS sa sb l yJ1_indexOfChar_4cfef w_J1_indexOfChar_4cfef { frames := 0, cells := 0, slots := 0, locals := 0 } D cy [.ref sb, .int c, .int f, .int m] Z I L (rS Z I L (fun r => -1 ≤ r.toInt ∧ r.toInt ≤ 6)) := by
  refine jCtS_of (cc := cJ1_indexOfChar_4cfef) (maxL := 6) (ret := some .int) (by decide +kernel) rfl (Nat.le_of_ble_eq_true rfl) ?_
  intro G eD eY eL E hU
  subst eD; subst eY; subst eL
  have E : jE G cJ1_indexOfChar_4cfef RJ1 w_J1_indexOfChar_4cfef 6 (some .int) { frames := 0, cells := 0, slots := 0, locals := 0 } (rS Z I L (fun r => -1 ≤ r.toInt ∧ r.toInt ≤ 6)) := E
  show jJ G 6 0 [(0, .ref sb), (1, .int c), (2, .int f), (3, .int m)] [] Z I L 0 0
  refine j_iload_n E dJ1_indexOfChar_4cfef_0 1 rfl ?_
  refine j_i2b E dJ1_indexOfChar_4cfef_1 ?_
  refine j_topi (fun x ex => ?_)
  refine j_istore E 4 [(4, .int x), (0, .ref sb), (1, .int c), (2, .int f), (3, .int m)] dJ1_indexOfChar_4cfef_2 (by decide) rfl ?_
  refine j_iload_n E dJ1_indexOfChar_4cfef_4 3 rfl ?_
  refine j_istore E 5 [(5, .int f), (4, .int x), (0, .ref sb), (1, .int c), (2, .int f), (3, .int m)] dJ1_indexOfChar_4cfef_5 (by decide) rfl ?_
  refine j_sub [0, 1, 2, 5] rfl ?_
  exact cs_ixLoop E hU hm 8 f h0 (by omega) h1
set_option maxHeartbeats 4000000 in
theorem cs_indexOf1 (l : Launch) (D : va_G) (cy : jC) {sa sb : Nat} (Z : jZ) (I : jI) (L : jL) (c : Int32) : jCtS sa sb l yJ1_indexOf_4cfef w_J1_indexOf_4cfef { frames := 1, cells := 0, slots := 0, locals := 25 } D cy [.ref sb, .int c, .int 0, .int 7] Z I L (rS Z I L (fun r => -1 ≤ r.toInt ∧ r.toInt ≤ 6)) := by
  refine jCtS_of (cc := cJ1_indexOf_4cfef) (maxL := 4) (ret := some .int) (by decide +kernel) rfl (Nat.le_of_ble_eq_true rfl) ?_
  intro G eD eY eL E hU
  subst eD; subst eY; subst eL
  have E : jE G cJ1_indexOf_4cfef RJ1 w_J1_indexOf_4cfef 4 (some .int) { frames := 1, cells := 0, slots := 0, locals := 25 } (rS Z I L (fun r => -1 ≤ r.toInt ∧ r.toInt ≤ 6)) := E
  show jJ G 4 0 [(0, .ref sb), (1, .int c), (2, .int 0), (3, .int 7)] [] Z I L 0 0
  refine j_iload_n E dJ1_indexOf_4cfef_0 1 rfl ?_
  refine j_callST E hU [.int c] [] (cs_canEncode (gL G) (gD G) (gY G) Z I L c) (gwS WS_1209 WS_1210 WS_1211 WS_1212) rfl fy_J1_canEncode_9a6ad ⟨by decide, by decide⟩ rfl rfl (Nat.le_of_ble_eq_true rfl) ⟨Nat.zero_le _, Nat.zero_le _⟩ dJ1_indexOf_4cfef_1 (fun v9 Z9 I9 L9 q9 => ?_)
  obtain ⟨rfl, rfl, rfl, r, rfl, er⟩ := q9
  show jJ G 4 4 [(0, .ref sb), (1, .int c), (2, .int 0), (3, .int 7)] [.int r] Z I L 0 0
  refine j_if_ne E 9 dJ1_indexOf_4cfef_4 (by decide) (fun c1 => ?_) (fun c1 => ?_)
  · refine j_iload_n E dJ1_indexOf_4cfef_9 2 rfl ?_
    refine j_iconst E (v := 0) dJ1_indexOf_4cfef_10 (by decide) ?_
    refine j_max E (tw WS_1213) (tw W_147) (tw W_8) (tw W_148) (Nat.le_of_ble_eq_true rfl) (Nat.le_of_ble_eq_true rfl) (Nat.zero_le _) (Nat.zero_le _) dJ1_indexOf_4cfef_11 ?_
    refine j_topi (fun f ef => ?_)
    refine j_istore_n E 2 [(2, .int f), (0, .ref sb), (1, .int c), (3, .int 7)] dJ1_indexOf_4cfef_14 rfl (by decide) rfl ?_
    refine j_iload_n E dJ1_indexOf_4cfef_15 3 rfl ?_
    refine j_aload_n E dJ1_indexOf_4cfef_16 1 rfl ?_
    refine j_lnS E hU dJ1_indexOf_4cfef_17 ?_
    refine j_min E (tw WS_1214) (tw W_7) (tw W_8) (tw W_9) (Nat.le_of_ble_eq_true rfl) (Nat.le_of_ble_eq_true rfl) (Nat.zero_le _) (Nat.zero_le _) dJ1_indexOf_4cfef_18 ?_
    refine j_topi (fun m em => ?_)
    refine j_istore_n E 3 [(3, .int m), (2, .int f), (0, .ref sb), (1, .int c)] dJ1_indexOf_4cfef_21 rfl (by decide) rfl ?_
    have hf : f.toInt = 0 := by rw [ef]; decide
    have hm : m.toInt = 7 := by rw [em]; decide
    refine j_iload_n E dJ1_indexOf_4cfef_22 1 rfl ?_
    refine j_iload_n E dJ1_indexOf_4cfef_23 0 rfl ?_
    refine j_icmp_lt E 29 dJ1_indexOf_4cfef_24 (by decide) (fun c2 => ?_) (fun c2 => ?_)
    · refine j_aload_n E dJ1_indexOf_4cfef_29 2 rfl ?_
      refine j_iload_n E dJ1_indexOf_4cfef_30 3 rfl ?_
      refine j_iload_n E dJ1_indexOf_4cfef_31 1 rfl ?_
      refine j_iload_n E dJ1_indexOf_4cfef_32 0 rfl ?_
      refine j_callST E hU [.ref sb, .int c, .int f, .int m] [] (cs_indexOfChar (gL G) (gD G) (gY G) Z I L c f m (by omega) (by omega) (by omega)) (gwS WS_1215 WS_1216 WS_1211 WS_1217) rfl fy_J1_indexOfChar_4cfef ⟨by decide, by decide⟩ rfl rfl (Nat.le_of_ble_eq_true rfl) ⟨Nat.zero_le _, Nat.zero_le _⟩ dJ1_indexOf_4cfef_33 (fun v9 Z9 I9 L9 q9 => ?_)
      obtain ⟨rfl, rfl, rfl, r2, rfl, er2⟩ := q9
      exact j_ireturn E ⟨rfl, rfl, rfl, _, rfl, er2⟩ (Nat.zero_le _) (Nat.zero_le _) dJ1_indexOf_4cfef_36
    · refine j_iconst E (v := -1) dJ1_indexOf_4cfef_27 (by decide) ?_
      exact j_ireturn E ⟨rfl, rfl, rfl, _, rfl, by decide, by decide⟩ (Nat.zero_le _) (Nat.zero_le _) dJ1_indexOf_4cfef_28
  · refine j_iconst E (v := -1) dJ1_indexOf_4cfef_7 (by decide) ?_
    exact j_ireturn E ⟨rfl, rfl, rfl, _, rfl, by decide, by decide⟩ (Nat.zero_le _) (Nat.zero_le _) dJ1_indexOf_4cfef_8
set_option maxHeartbeats 4000000 in
theorem cs_coder (l : Launch) (D : va_G) (cy : jC) {sa sb : Nat} (Z : jZ) (I : jI) (L : jL)  : jCtS sa sb l yJ0_coder_7d493 w_J0_coder_7d493 { frames := 0, cells := 0, slots := 0, locals := 0 } D cy [.ref sa] Z I L (rS Z I L (fun r => r = 0)) := by
  refine jCtS_of (cc := cJ0_coder_7d493) (maxL := 1) (ret := some .byte) (by decide +kernel) rfl (Nat.le_of_ble_eq_true rfl) ?_
  intro G eD eY eL E hU
  subst eD; subst eY; subst eL
  have E : jE G cJ0_coder_7d493 RJ0 w_J0_coder_7d493 1 (some .byte) { frames := 0, cells := 0, slots := 0, locals := 0 } (rS Z I L (fun r => r = 0)) := E
  show jJ G 1 0 [(0, .ref sa)] [] Z I L 0 0
  refine j_gsS E hU (tw WS_1218) dJ0_coder_7d493_0 ?_
  refine j_if_eq E 13 dJ0_coder_7d493_3 (by decide) (fun c => absurd c (by decide)) (fun _ => ?_)
  refine j_aload_n E dJ0_coder_7d493_6 0 rfl ?_
  refine j_cdS E hU (tw WS_1219) dJ0_coder_7d493_7 ?_
  refine j_goto E 14 dJ0_coder_7d493_10 (by decide) ?_
  exact j_xreturn E rfl ⟨rfl, rfl, rfl, _, rfl, rfl⟩ (Nat.zero_le _) (Nat.zero_le _) dJ0_coder_7d493_14
set_option maxHeartbeats 4000000 in
theorem cs_isLatin1 (l : Launch) (D : va_G) (cy : jC) {sa sb : Nat} (Z : jZ) (I : jI) (L : jL)  : jCtS sa sb l yJ0_isLatin1_aae02 w_J0_isLatin1_aae02 { frames := 0, cells := 0, slots := 0, locals := 0 } D cy [.ref sa] Z I L (rS Z I L (fun r => r = 1)) := by
  refine jCtS_of (cc := cJ0_isLatin1_aae02) (maxL := 1) (ret := some .boolean) (by decide +kernel) rfl (Nat.le_of_ble_eq_true rfl) ?_
  intro G eD eY eL E hU
  subst eD; subst eY; subst eL
  have E : jE G cJ0_isLatin1_aae02 RJ0 w_J0_isLatin1_aae02 1 (some .boolean) { frames := 0, cells := 0, slots := 0, locals := 0 } (rS Z I L (fun r => r = 1)) := E
  show jJ G 1 0 [(0, .ref sa)] [] Z I L 0 0
  refine j_gsS E hU (tw WS_1218) dJ0_isLatin1_aae02_0 ?_
  refine j_if_eq E 17 dJ0_isLatin1_aae02_3 (by decide) (fun c => absurd c (by decide)) (fun _ => ?_)
  refine j_aload_n E dJ0_isLatin1_aae02_6 0 rfl ?_
  refine j_cdS E hU (tw WS_1219) dJ0_isLatin1_aae02_7 ?_
  refine j_if_ne E 17 dJ0_isLatin1_aae02_10 (by decide) (fun c => absurd rfl c) (fun _ => ?_)
  refine j_iconst E (v := 1) dJ0_isLatin1_aae02_13 (by decide) ?_
  refine j_goto E 18 dJ0_isLatin1_aae02_14 (by decide) ?_
  exact j_zreturn E (Or.inr rfl) ⟨rfl, rfl, rfl, _, rfl, rfl⟩ (Nat.zero_le _) (Nat.zero_le _) dJ0_isLatin1_aae02_18
set_option maxHeartbeats 4000000 in
theorem cs_length (l : Launch) (D : va_G) (cy : jC) {sa sb : Nat} (Z : jZ) (I : jI) (L : jL)  : jCtS sa sb l yJ0_length_8abf5 w_J0_length_8abf5 { frames := 1, cells := 0, slots := 0, locals := 20 } D cy [.ref sa] Z I L (rS Z I L (fun r => r = 7)) := by
  refine jCtS_of (cc := cJ0_length_8abf5) (maxL := 1) (ret := some .int) (by decide +kernel) rfl (Nat.le_of_ble_eq_true rfl) ?_
  intro G eD eY eL E hU
  subst eD; subst eY; subst eL
  have E : jE G cJ0_length_8abf5 RJ0 w_J0_length_8abf5 1 (some .int) { frames := 1, cells := 0, slots := 0, locals := 20 } (rS Z I L (fun r => r = 7)) := E
  show jJ G 1 0 [(0, .ref sa)] [] Z I L 0 0
  refine j_aload_n E dJ0_length_8abf5_0 0 rfl ?_
  refine j_vlS E hU (tw WS_1220) dJ0_length_8abf5_1 ?_
  refine j_lnS E hU dJ0_length_8abf5_4 ?_
  refine j_aload_n E dJ0_length_8abf5_5 0 rfl ?_
  refine j_callVT E hU [] [.int 7] (cs_coder (gL G) (gD G) (gY G) Z I L) (gwV WS_1221 WS_1222 WS_1223 WS_1224 WS_1225) rfl ⟨rfl, fy_J0_coder_7d493⟩ ⟨by decide, by decide⟩ rfl rfl (Nat.le_of_ble_eq_true rfl) ⟨Nat.zero_le _, Nat.zero_le _⟩ dJ0_length_8abf5_6 (fun v9 Z9 I9 L9 q9 => ?_)
  obtain ⟨rfl, rfl, rfl, r, rfl, er⟩ := q9
  have er : r = 0 := er
  subst er
  show jJ G 1 9 [(0, .ref sa)] [.int 0, .int 7] Z I L 0 0
  refine j_ishr E dJ0_length_8abf5_9 ?_
  exact j_ireturn E ⟨rfl, rfl, rfl, _, rfl, by decide⟩ (Nat.zero_le _) (Nat.zero_le _) dJ0_length_8abf5_10
set_option maxHeartbeats 4000000 in
theorem cs_indexOf2 (l : Launch) (D : va_G) (cy : jC) {sa sb : Nat} (Z : jZ) (I : jI) (L : jL) (c : Int32) : jCtS sa sb l yJ0_indexOf_7cf53 w_J0_indexOf_7cf53 { frames := 2, cells := 0, slots := 0, locals := 48 } D cy [.ref sa, .int c, .int 0] Z I L (rS Z I L (fun r => -1 ≤ r.toInt ∧ r.toInt ≤ 6)) := by
  refine jCtS_of (cc := cJ0_indexOf_7cf53) (maxL := 3) (ret := some .int) (by decide +kernel) rfl (Nat.le_of_ble_eq_true rfl) ?_
  intro G eD eY eL E hU
  subst eD; subst eY; subst eL
  have E : jE G cJ0_indexOf_7cf53 RJ0 w_J0_indexOf_7cf53 3 (some .int) { frames := 2, cells := 0, slots := 0, locals := 48 } (rS Z I L (fun r => -1 ≤ r.toInt ∧ r.toInt ≤ 6)) := E
  show jJ G 3 0 [(0, .ref sa), (1, .int c), (2, .int 0)] [] Z I L 0 0
  refine j_aload_n E dJ0_indexOf_7cf53_0 0 rfl ?_
  refine j_callVT E hU [] [] (cs_isLatin1 (gL G) (gD G) (gY G) Z I L) (gwV WS_1226 WS_1227 WS_1228 WS_1224 WS_1229) rfl ⟨rfl, fy_J0_isLatin1_aae02⟩ ⟨by decide, by decide⟩ rfl rfl (Nat.le_of_ble_eq_true rfl) ⟨Nat.zero_le _, Nat.zero_le _⟩ dJ0_indexOf_7cf53_1 (fun v9 Z9 I9 L9 q9 => ?_)
  obtain ⟨rfl, rfl, rfl, r, rfl, er⟩ := q9
  have er : r = 1 := er
  subst er
  show jJ G 3 4 [(0, .ref sa), (1, .int c), (2, .int 0)] [.int 1] Z I L 0 0
  refine j_if_eq E 23 dJ0_indexOf_7cf53_4 (by decide) (fun c => absurd c (by decide)) (fun _ => ?_)
  refine j_aload_n E dJ0_indexOf_7cf53_7 0 rfl ?_
  refine j_vlS E hU (tw WS_1220) dJ0_indexOf_7cf53_8 ?_
  refine j_iload_n E dJ0_indexOf_7cf53_11 1 rfl ?_
  refine j_iload_n E dJ0_indexOf_7cf53_12 2 rfl ?_
  refine j_aload_n E dJ0_indexOf_7cf53_13 0 rfl ?_
  refine j_callVT E hU [] [.int 0, .int c, .ref sb] (cs_length (gL G) (gD G) (gY G) Z I L) (gwV WS_1230 WS_1231 WS_1232 WS_1224 WS_1233) rfl ⟨rfl, fy_J0_length_8abf5⟩ ⟨by decide, by decide⟩ rfl rfl (Nat.le_of_ble_eq_true rfl) ⟨Nat.zero_le _, Nat.zero_le _⟩ dJ0_indexOf_7cf53_14 (fun v9 Z9 I9 L9 q9 => ?_)
  obtain ⟨rfl, rfl, rfl, r2, rfl, er2⟩ := q9
  have er2 : r2 = 7 := er2
  subst er2
  show jJ G 3 17 [(0, .ref sa), (1, .int c), (2, .int 0)] [.int 7, .int 0, .int c, .ref sb] Z I L 0 0
  refine j_callST E hU [.ref sb, .int c, .int 0, .int 7] [] (cs_indexOf1 (gL G) (gD G) (gY G) Z I L c) (gwS WS_1234 WS_1235 WS_1211 WS_1236) rfl fy_J1_indexOf_4cfef ⟨by decide, by decide⟩ rfl rfl (Nat.le_of_ble_eq_true rfl) ⟨Nat.zero_le _, Nat.zero_le _⟩ dJ0_indexOf_7cf53_17 (fun v9 Z9 I9 L9 q9 => ?_)
  obtain ⟨rfl, rfl, rfl, r3, rfl, er3⟩ := q9
  show jJ G 3 20 [(0, .ref sa), (1, .int c), (2, .int 0)] [.int r3] Z I L 0 0
  refine j_goto E 36 dJ0_indexOf_7cf53_20 (by decide) ?_
  exact j_ireturn E ⟨rfl, rfl, rfl, _, rfl, er3⟩ (Nat.zero_le _) (Nat.zero_le _) dJ0_indexOf_7cf53_36
set_option maxHeartbeats 4000000 in
theorem cs_indexOf (l : Launch) (D : va_G) (cy : jC) {sa sb : Nat} (Z : jZ) (I : jI) (L : jL) (c : Int32) : jCtS sa sb l yJ0_indexOf_0f7a4 w_J0_indexOf_0f7a4 { frames := 3, cells := 0, slots := 0, locals := 70 } D cy [.ref sa, .int c] Z I L (rS Z I L (fun r => -1 ≤ r.toInt ∧ r.toInt ≤ 6)) := by
  refine jCtS_of (cc := cJ0_indexOf_0f7a4) (maxL := 2) (ret := some .int) (by decide +kernel) rfl (Nat.le_of_ble_eq_true rfl) ?_
  intro G eD eY eL E hU
  subst eD; subst eY; subst eL
  have E : jE G cJ0_indexOf_0f7a4 RJ0 w_J0_indexOf_0f7a4 2 (some .int) { frames := 3, cells := 0, slots := 0, locals := 70 } (rS Z I L (fun r => -1 ≤ r.toInt ∧ r.toInt ≤ 6)) := E
  show jJ G 2 0 [(0, .ref sa), (1, .int c)] [] Z I L 0 0
  refine j_aload_n E dJ0_indexOf_0f7a4_0 0 rfl ?_
  refine j_iload_n E dJ0_indexOf_0f7a4_1 1 rfl ?_
  refine j_iconst E (v := 0) dJ0_indexOf_0f7a4_2 (by decide) ?_
  refine j_callVT E hU [.int c, .int 0] [] (cs_indexOf2 (gL G) (gD G) (gY G) Z I L c) (gwV WS_1237 WS_1238 WS_1239 WS_1224 WS_1240) rfl ⟨rfl, fy_J0_indexOf_7cf53⟩ ⟨by decide, by decide⟩ rfl rfl (Nat.le_of_ble_eq_true rfl) ⟨Nat.zero_le _, Nat.zero_le _⟩ dJ0_indexOf_0f7a4_3 (fun v9 Z9 I9 L9 q9 => ?_)
  obtain ⟨rfl, rfl, rfl, r, rfl, er⟩ := q9
  exact j_ireturn E ⟨rfl, rfl, rfl, _, rfl, er⟩ (Nat.zero_le _) (Nat.zero_le _) dJ0_indexOf_0f7a4_6
