def va_AOA (t : FieldType) (U : State) : Prop := (Cond.arrayOver (.array t)).before #[] U = true
theorem va_AOA.use {t : FieldType} {A : Array Value} {U : State} (h : va_AOA t U) : (Cond.arrayOver (.array t)).before A U = true := h
/-! ===== BEGIN new T[n][m]: the outer array a place, the inner ones among the pooled ===== -/
/-- f, but v at every address of l -/
def vr_up {α : Type} (f : Nat → α) (l : List Nat) (v : α) : Nat → α := fun a => if a ∈ l then v else f a
theorem vr_up_in {α : Type} {f : Nat → α} {l : List Nat} {v : α} {a : Nat} (h : a ∈ l) : vr_up f l v a = v := if_pos h
theorem vr_up_ne {α : Type} {f : Nat → α} {l : List Nat} {v : α} {a : Nat} (h : a ∉ l) : vr_up f l v a = f a := if_neg h
theorem vr_rows {L l : List Nat} {f : Nat → va_E} {e : va_E} (h : ∀ a, a ∈ l → a ∉ L) : va_pl L f ++ l.map (fun a => (a, e)) = va_pl (L ++ l) (vr_up f l e) := by
  unfold va_pl
  rw [List.map_append]
  congr 1
  · apply List.map_congr_left
    intro a ha
    rw [vr_up_ne (fun q => h a q ha)]
  · apply List.map_congr_left
    intro a ha
    rw [vr_up_in ha]
theorem vr_lay {X rows : va_W} {x : Nat × va_E} {pl : va_W} {D : va_G} {cl : List vw_C} {H : Heap} (hP : va_P D cl (((X ++ pl) ++ [x]) ++ rows) H) : va_P D cl ((X ++ [x]) ++ (pl ++ rows)) H := by
  rw [List.append_assoc (X ++ pl)] at hP
  have h := va_P.swap hP
  rw [← List.append_assoc X] at h
  have h2 := va_P.swap h
  rw [List.append_assoc (X ++ [x])] at h2
  exact h2
theorem vr_layD {X rows : va_W} {x : Nat × va_E} {pl : va_W} {A : Nat → Prop} (hD : va_D A (((X ++ pl) ++ [x]) ++ rows)) : va_D A ((X ++ [x]) ++ (pl ++ rows)) := by
  rw [List.append_assoc (X ++ pl)] at hD
  have h := va_D.swap hD
  rw [← List.append_assoc X] at h
  have h2 := va_D.swap h
  rw [List.append_assoc (X ++ [x])] at h2
  exact h2
theorem vr_outer (c : ClassId) (N h0 : Nat) : ∀ i : Nat, Jvm.Free.Multi.outerC c N h0 i = arrV c N (fun j => va_rf (if j < i then some (h0 + 1 + j) else none))
  | 0 => by
    show ({ cls := c, slots := Array.replicate N .null, vm := .none } : Cell) = _
    rw [arrV_new]
    refine congrArg (arrV c N) (funext fun j => ?_)
    simp [va_rf]
  | i + 1 => by
    show (Jvm.Free.Multi.outerC c N h0 i).setSlot i (.ref (h0 + 1 + i)) = _
    rw [vr_outer c N h0 i, arrV_store]
    refine congrArg (arrV c N) (funext fun j => ?_)
    by_cases e : j = i
    · subst e
      simp [updV, va_rf]
    · by_cases h : j < i
      · simp [updV, e, h, Nat.lt_succ_of_lt h]
      · simp [updV, e, h, show ¬ j < i + 1 by omega]
section VGM
variable {p : Program} {l : Launch} {e : Env} {R : Room} {s : State} {m : MethodId} {args : Array Value} {below : List Frame} {meth : Method} {c : Code} {H : Heap} {locs : List Loc} {cells slots : Nat} {Q : State → Prop}
variable {cc : ByteArray} {pc : Nat} {ls : Array Slot} {rest : List Value} {D : va_G} {cl : List vw_C} {A : Nat → Prop} {a : Nat} {tys : List (ClassId × FieldType)} {ws : va_W} {H0 : Heap}
theorem va_mna {X : va_W} {L : List Nat} {f : Nat → va_E} {cc : ByteArray} (hexec : p.tables.exec = Jvm.exec) (hb : c.code = cc) {own : String} {index : Nat} {ty : FieldType} {cy : ClassId} (hown : s.vm.findClass own = some m.cls) (hclink : (Cond.classLink own index ("[" ++ (FieldType.array ty).toString)).before args s = true) (hover : va_AOA ty s) (harr : (Cond.arrayClass ty).before args s = true) (hcy : s.vm.findClass (FieldType.array ty).toString = some cy)
    (hK : va_K D cl tys s) (hP : va_P D cl (X ++ va_pl L f) H) (hD : va_D A (X ++ va_pl L f)) (hS : va_S A H0 H locs) (hA : ∀ q, H0.size ≤ q → A q) {n k : Int32} {N' K' : Nat} {z : vp_A} (hn : ¬ n < 0) (hk : ¬ k < 0) (hN : n.toNatClampNeg = N') (hM : k.toNatClampNeg = K')
    (hb1 : N' * 4 ≤ 536870912) (hb2 : K' * componentBytes ty ≤ 536870912) (hb3 : K' ≤ 536870912) (hdf : fits ty (defaultValue ty) = true) (hdd : (defaultValue ty).isDefault = true) (hcells : cells + (1 + N') ≤ R.cells) (hslots : slots + (N' + N' * K') ≤ R.slots) (hz : ∀ c : ClassId, Jvm.Free.Multi.innerC c K' (defaultValue ty) = vp_cell c z) (hdg : decode cc pc = .ok (.multianewarray index 2, 4))
    (kk : ∀ (q : Nat) (r : Nat → Nat) (cA : ClassId) (H1 : Heap), (∀ i j : Nat, i < N' → j < N' → r i = r j → i = j) → (∀ i : Nat, i < N' → r i ∉ L) → va_K D cl (tys ++ [(cA, .array ty)]) s →
      va_P D cl ((X ++ [(q, .inl (cA, N', .inr (.inr (.inr (.inr (fun i => if i < N' then some (r i) else none))))))]) ++ va_pl (L ++ (List.range N').map r) (vr_up f ((List.range N').map r) (.inl (cy, z)))) H1 → va_D A ((X ++ [(q, .inl (cA, N', .inr (.inr (.inr (.inr (fun i => if i < N' then some (r i) else none))))))]) ++ va_pl (L ++ (List.range N').map r) (vr_up f ((List.range N').map r) (.inl (cy, z)))) → va_S A H0 H1 locs →
      W p l e R s m args below meth c H1 locs (cells + 1 + N') (slots + N' + N' * K') Q (F0 m (pc + 4) ls (.ref q :: rest))) : W p l e R s m args below meth c H locs cells slots Q (F0 m pc ls (.int k :: .int n :: rest)) := by
  subst hN
  subst hM
  intro T hT Xs
  obtain ⟨vm₁, cA, comp, -, fA, fC, hO, -, X', step⟩ := Xs.multianewarray2F hexec hown hclink (va_AOA.use hover) harr (g := F0 m pc ls (.int k :: .int n :: rest)) rfl (by rw [hb]; exact hdg) rfl hn hk hb1 hb2 hb3 hdf hdd hcells hslots
  have ec : some cy = some comp := hcy.symm.trans fC
  cases ec
  generalize hF : Jvm.Free.Multi.fill (T.setVm vm₁) cA cy n.toNatClampNeg k.toNatClampNeg (defaultValue ty) n.toNatClampNeg = F at X' step
  have hTh : (T.setVm vm₁).heap = H := hT
  obtain ⟨f1, f2, -, -⟩ := Jvm.Free.Multi.fill_facts (T.setVm vm₁) cA cy n.toNatClampNeg k.toNatClampNeg (defaultValue ty) n.toNatClampNeg
  rw [hF, hTh] at f1 f2
  have hold : ∀ x : Nat, x < H.size → F.heap[x]? = H[x]? := fun x hx => by
    have := Jvm.Free.Multi.fill_old (T.setVm vm₁) cA cy n.toNatClampNeg k.toNatClampNeg (defaultValue ty) (a := x) (by rw [hTh]; exact hx) n.toNatClampNeg
    rw [hF, hTh] at this
    exact this
  have hrow : ∀ j : Nat, j < n.toNatClampNeg → F.heap[H.size + 1 + j]? = some (vp_cell cy z) := fun j hj => by
    have := Jvm.Free.Multi.fill_inner (T.setVm vm₁) cA cy n.toNatClampNeg k.toNatClampNeg (defaultValue ty) n.toNatClampNeg j hj
    rw [hF, hTh, hz] at this
    exact this
  have hout : Jvm.Free.Multi.outerC cA n.toNatClampNeg H.size n.toNatClampNeg = vp_cell cA (n.toNatClampNeg, .inr (.inr (.inr (.inr (fun i => if i < n.toNatClampNeg then some (H.size + 1 + i) else none))))) := by
    rw [vp_cell_q]
    exact vr_outer cA n.toNatClampNeg H.size n.toNatClampNeg
  rw [hout] at f2
  have hlt : ∀ a, a ∈ L → a < H.size := fun a ha => by
    obtain ⟨k9, hk9⟩ := va_pl_get (X := X) (f := f) ha
    exact (hP k9 _ hk9).lt
  have hnl : ∀ i : Nat, i < n.toNatClampNeg → H.size + 1 + i ∉ L := fun i _ h => by
    have := hlt _ h
    omega
  have hnm : ∀ a, a ∈ (List.range n.toNatClampNeg).map (fun i => H.size + 1 + i) → a ∉ L := fun a ha h => by
    obtain ⟨i, -, rfl⟩ := List.mem_map.mp ha
    have := hlt _ h
    omega
  have hP0 : va_P D cl (X ++ va_pl L f) F.heap := hP.kept (fun k9 x hx => hold x.1 ((hP k9 x hx).lt))
  have hP1 : va_P D cl ((X ++ va_pl L f) ++ [(H.size, .inl (cA, n.toNatClampNeg, .inr (.inr (.inr (.inr (fun i => if i < n.toNatClampNeg then some (H.size + 1 + i) else none))))))]) F.heap := hP0.app (fun k9 x hx => by
    have h0 : k9 < 1 := (List.getElem?_eq_some_iff.mp hx).1
    rw [show k9 = 0 by omega] at hx
    cases hx
    exact f2)
  have hP2 : va_P D cl (((X ++ va_pl L f) ++ [(H.size, .inl (cA, n.toNatClampNeg, .inr (.inr (.inr (.inr (fun i => if i < n.toNatClampNeg then some (H.size + 1 + i) else none))))))]) ++ ((List.range n.toNatClampNeg).map (fun i => H.size + 1 + i)).map (fun a => (a, .inl (cy, z)))) F.heap := hP1.app (fun k9 x hx => by
    obtain ⟨a, ha, rfl⟩ := List.mem_map.mp (List.mem_of_getElem? hx)
    obtain ⟨i, hi, rfl⟩ := List.mem_map.mp ha
    exact hrow i (List.mem_range.mp hi))
  have hD2 : va_D A (((X ++ va_pl L f) ++ [(H.size, .inl (cA, n.toNatClampNeg, .inr (.inr (.inr (.inr (fun i => if i < n.toNatClampNeg then some (H.size + 1 + i) else none))))))]) ++ ((List.range n.toNatClampNeg).map (fun i => H.size + 1 + i)).map (fun a => (a, .inl (cy, z)))) := by
    have hD1 := hD.push (e := .inl (cA, n.toNatClampNeg, .inr (.inr (.inr (.inr (fun i => if i < n.toNatClampNeg then some (H.size + 1 + i) else none)))))) hP rfl (hA _ hS.1)
    generalize hW1 : (X ++ va_pl L f) ++ [(H.size, .inl (cA, n.toNatClampNeg, .inr (.inr (.inr (.inr (fun i => if i < n.toNatClampNeg then some (H.size + 1 + i) else none))))))] = W1 at hD1 hP1 ⊢
    have hle : ∀ (k9 : Nat) (x : Nat × va_E), W1[k9]? = some x → x.1 ≤ H.size := fun k9 x hx => by
      rw [← hW1] at hx
      by_cases hl : k9 < (X ++ va_pl L f).length
      · rw [List.getElem?_append_left hl] at hx
        exact Nat.le_of_lt ((hP k9 x hx).lt)
      · rw [List.getElem?_append_right (by omega)] at hx
        have h0 : k9 - (X ++ va_pl L f).length < 1 := (List.getElem?_eq_some_iff.mp hx).1
        rw [show k9 - (X ++ va_pl L f).length = 0 by omega] at hx
        cases hx
        exact Nat.le_refl _
    have hr : ∀ (k9 : Nat) (x : Nat × va_E), (((List.range n.toNatClampNeg).map (fun i => H.size + 1 + i)).map (fun a => ((a, .inl (cy, z)) : Nat × va_E)))[k9]? = some x → x.1 = H.size + 1 + k9 := fun k9 x hx => by
      rw [List.getElem?_map, List.getElem?_map] at hx
      by_cases h9 : k9 < n.toNatClampNeg
      · rw [List.getElem?_range h9] at hx
        cases hx
        rfl
      · have hn0 : (List.range n.toNatClampNeg)[k9]? = none := List.getElem?_eq_none (by rw [List.length_range]; omega)
        rw [hn0] at hx
        cases hx
    refine ⟨fun i j x y hi hj hxy => ?_, fun k9 x hx => ?_⟩
    · by_cases h1 : i < W1.length <;> by_cases h2 : j < W1.length
      · rw [List.getElem?_append_left h1] at hi
        rw [List.getElem?_append_left h2] at hj
        exact hD1.1 i j x y hi hj hxy
      · rw [List.getElem?_append_left h1] at hi
        rw [List.getElem?_append_right (by omega)] at hj
        have := hle _ _ hi
        have := hr _ _ hj
        omega
      · rw [List.getElem?_append_right (by omega)] at hi
        rw [List.getElem?_append_left h2] at hj
        have := hle _ _ hj
        have := hr _ _ hi
        omega
      · rw [List.getElem?_append_right (by omega)] at hi hj
        have := hr _ _ hi
        have := hr _ _ hj
        omega
    · by_cases h1 : k9 < W1.length
      · rw [List.getElem?_append_left h1] at hx
        exact hD1.2 k9 x hx
      · rw [List.getElem?_append_right (by omega)] at hx
        have := hr _ _ hx
        exact hA _ (by have := hS.1; omega)
  have hAr : ArrOfT s cA (.array ty) := fun N9 z9 => by
    obtain ⟨-, k9, hk9, cm9, hkk9⟩ := (hO 0 0 0).1
    exact ⟨(fun q hq => by cases hq), k9, hk9, cm9, hkk9⟩
  have hK2 : va_K D cl (tys ++ [(cA, .array ty)]) s := ⟨hK.1, fun k9 x hx => by
    by_cases hl : k9 < tys.length
    · rw [List.getElem?_append_left hl] at hx
      exact hK.2 k9 x hx
    · rw [List.getElem?_append_right (by omega)] at hx
      have h0 : k9 - tys.length < 1 := (List.getElem?_eq_some_iff.mp hx).1
      rw [show k9 - tys.length = 0 by omega] at hx
      cases hx
      exact ⟨hAr, fA⟩⟩
  obtain ⟨t, a1, b1⟩ := kk H.size (fun i => H.size + 1 + i) cA F.heap (fun i j _ _ h => by have h9 : H.size + 1 + i = H.size + 1 + j := h; omega) hnl hK2 (by rw [← vr_rows hnm]; exact vr_lay hP2) (by rw [← vr_rows hnm]; exact vr_layD hD2) ⟨by rw [f1]; have := hS.1; omega, fun x h1 h2 => (hold x (Nat.lt_of_lt_of_le h1 hS.1)).trans (hS.2.1 x h1 h2), hS.2.2⟩ F rfl X'
  refine ⟨t, step t ?_, b1⟩
  have e : T.heap.size = H.size := by rw [hT]
  rw [e]
  exact a1
end VGM
/-! ===== END ===== -/
/-! ===== making cells ===== -/
abbrev jnw (Z : jZ) (q k m : Nat) : jZ := (Z.1 ++ [q], va_up Z.2.1 q k, va_up Z.2.2.1 q m, va_up Z.2.2.2 q (fun _ => none))
abbrev jz0 (I : jI) (q : Nat) : jI := va_up I q (fun _ => 0)
abbrev jzL (L : jL) (q : Nat) : jL := va_up L q (fun _ => 0)
theorem jext_nw {Z : jZ} {q k m : Nat} (h : q ∉ Z.1) : jext Z (jnw Z q k m) := by
  intro a c ha
  have hne : a ≠ q := fun e => h (e ▸ ha.1)
  refine ⟨⟨List.mem_append_left _ ha.1, ?_⟩, ?_⟩
  · show va_up Z.2.1 q k a = c
    rw [va_up_ne _ _ hne]; exact ha.2
  · show va_up Z.2.2.1 q m a = Z.2.2.1 a
    rw [va_up_ne _ _ hne]
theorem jk_nw {Z : jZ} {q k m : Nat} : jk (jnw Z q k m) q k := ⟨List.mem_append_right _ List.mem_cons_self, va_up_self _ _ _⟩
theorem jlen_nw {Z : jZ} {q k m : Nat} : jlen (jnw Z q k m) q = m := va_up_self _ _ _
theorem j_fresh {A : Nat → Prop} {X : va_W} {cy : jC} {Z : jZ} {I : jI} {L : jL} {q : Nat} {e : va_E} (hD : va_D A ((X ++ jw cy Z I L) ++ [(q, e)])) : q ∉ Z.1 := by
  intro hq
  obtain ⟨k, hk⟩ := jw_get (X := X) (cy := cy) (I := I) (L := L) hq
  have hl := (List.getElem?_eq_some_iff.mp hk).1
  have h1 : ((X ++ jw cy Z I L) ++ [(q, e)])[k]? = some (q, jf cy Z I L q) := by rw [List.getElem?_append_left hl]; exact hk
  have h2 : ((X ++ jw cy Z I L) ++ [(q, e)])[(X ++ jw cy Z I L).length]? = some (q, e) := by rw [List.getElem?_append_right (Nat.le_refl _), Nat.sub_self]; rfl
  have := hD.1 _ _ _ _ h1 h2 rfl
  omega
theorem jw_push {X : va_W} {cy : jC} {Z : jZ} {I : jI} {L : jL} {q k m : Nat} {e : va_E} (hq : q ∉ Z.1) (he : jf cy (jnw Z q k m) (jz0 I q) (jzL L q) q = e) : (X ++ jw cy Z I L) ++ [(q, e)] = X ++ jw cy (jnw Z q k m) (jz0 I q) (jzL L q) := by
  unfold jw
  rw [List.append_assoc, va_pl_push hq]
  congr 1
  apply va_pl_congr
  intro b
  by_cases hb : b = q
  · subst hb
    rw [va_up_self, he]
  · rw [va_up_ne _ _ hb]
    simp [jf, jnw, jz0, jzL, va_up_ne _ _ hb]
theorem jdefv {ty : FieldType} (h : ty ≠ .float ∧ ty ≠ .double) : defaultValue ty = jval ty 0 0 none := by
  cases ty <;> first | rfl | exact absurd rfl h.1 | exact absurd rfl h.2
theorem j_cyeq {D : va_G} {cl : List vw_C} {tys : List (ClassId × FieldType)} {s : State} {cA cB : ClassId} {ty : FieldType} {t0 : Nat} (hK : va_K D cl (tys ++ [(cA, ty)]) s) (ht : tys[t0]? = some (cB, ty)) (hty : ∀ C, ty ≠ .object C) : cA = cB := by
  have h1 := (hK.2 tys.length (cA, ty) (by rw [List.getElem?_append_right (Nat.le_refl _), Nat.sub_self]; rfl)).2
  have h2 := (hK.2 t0 (cB, ty) (by rw [List.getElem?_append_left (List.getElem?_eq_some_iff.mp ht).1]; exact ht)).2
  cases ty <;> first | exact absurd rfl (hty _) | exact Option.some.inj (Eq.trans (Eq.symm h1) h2)
theorem j_cyeqO {D : va_G} {cl : List vw_C} {tys : List (ClassId × FieldType)} {s : State} {cA cB : ClassId} {C : String} {t0 : Nat} (hK : va_K D cl (tys ++ [(cA, .object C)]) s) (ht : tys[t0]? = some (cB, .object C)) : cA = cB := by
  obtain ⟨-, -, -, -, -, h1⟩ := (hK.2 tys.length (cA, .object C) (by rw [List.getElem?_append_right (Nat.le_refl _), Nat.sub_self]; rfl)).2
  obtain ⟨-, -, -, -, -, h2⟩ := (hK.2 t0 (cB, .object C) (by rw [List.getElem?_append_left (List.getElem?_eq_some_iff.mp ht).1]; exact ht)).2
  exact Option.some.inj (h1.symm.trans h2)
section JNEW
variable {G : jG} {cc : ByteArray} {own : String} {Ts : List Cond} {nL : Nat} {ret : Option FieldType} {rm : Room} {Rt : jRt} {pc : Nat} {lv : List (Nat × Value)} {st : List Value} {Z : jZ} {I : jI} {L : jL} {k n : Nat}
theorem j_new (E : jE G cc own Ts nL ret rm Rt) {i : Nat} (c : Nat) {C : String} {T : u_T} {N : Nat} (hcl : vwCl[c]? = some (C, T, N)) (hN : N = jnum c) (hc : c < 13) (hin : ∀ w ∈ u_ws C T N, w ∈ Ts) (hty : ∀ k, k < N → parseFieldDescriptor (T k).2.2.1 = some (jty c k)) (hdef : ∀ j, j < N → jty c j ≠ .float ∧ jty c j ≠ .double) (w1 : Cond.classLink own i C ∈ Ts) (w2 : Cond.instantiable C N ∈ Ts) (w3 : Cond.initialized C ∈ Ts) (h1 : k + 1 ≤ rm.cells) (h2 : n + N ≤ rm.slots) (d : decode cc pc = .ok (.new i, 3)) (kk : ∀ q, q ∉ Z.1 → jJ G nL (pc + 3) lv (.ref q :: st) (jnw Z q c 0) (jz0 I q) (jzL L q) (k + 1) (n + N)) : jJ G nL pc lv st Z I L k n := by
  intro H locs ls hl hP hD hS
  have eR := E.2.2.2.2.2.2.1
  refine va_new (fs := jfs c (fun _ => 0) (fun _ => 0) (fun _ => none)) E.1.1 E.1.2.1 E.1.2.2.2.2 hin (jty c) hty E.1.2.2.2.1 (E.1.2.2.2.2 _ w1) (E.1.2.2.2.2 _ w2) (E.1.2.2.2.2 _ w3) E.2.1 hP hD hS E.2.2.1 hcl (fun j hj => by subst hN; rw [jdefv (hdef j hj)]; simp [vp_V, List.getD, jfs_get hj]) (by rw [eR]; exact h1) (by rw [eR]; exact h2) d (fun q H1 hP hD hS => ?_)
  have hq := j_fresh hD
  have e := jw_push (X := gX G) (cy := gY G) (Z := Z) (I := I) (L := L) (q := q) (k := c) (m := 0) hq (jf_obj (cy := gY G) (Z := jnw Z q c 0) (I := jz0 I q) (L := jzL L q) (va_up_self _ _ _) hc)
  simp only [jz0, jzL, va_up_self] at e
  rw [e] at hP hD
  exact kk q hq H1 locs ls hl hP hD hS
theorem j_newaI (E : jE G cc own Ts nL ret rm Rt) {m : Int32} (N : Nat) (hm : ¬ m < 0) (hN : m.toNatClampNeg = N) (hb : N * componentBytes .int ≤ 536870912) (w1 : Cond.arrayClass .int ∈ Ts) (h1 : k + 1 ≤ rm.cells) (h2 : n + N ≤ rm.slots) (d : decode cc pc = .ok (.newarray .int, 2)) (kk : ∀ q, q ∉ Z.1 → jJ G nL (pc + 2) lv (.ref q :: st) (jnw Z q 14 N) (jz0 I q) (jzL L q) (k + 1) (n + N)) : jJ G nL pc lv (.int m :: st) Z I L k n := by
  intro H locs ls hl hP hD hS
  have eR := E.2.2.2.2.2.2.1
  refine va_newa (atype := .int) (ty := .int) (a0 := (N, .inl (fun _ => 0))) E.1.1 E.1.2.1 (E.1.2.2.2.2 _ w1) rfl E.2.1 hP hD hS E.2.2.1 (fun _ => rfl) hm hN hb (by rw [eR]; exact h1) (by rw [eR]; exact h2) d (fun q cA H1 hK1 hP hD hS => ?_)
  have hq := j_fresh hD
  have ecy := j_cyeq (t0 := 1) hK1 rfl (fun C h => by cases h)
  subst ecy
  have e := jw_push (X := gX G) (cy := gY G) (Z := Z) (I := I) (L := L) (q := q) (k := 14) (m := N) hq (jf_14 (cy := gY G) (Z := jnw Z q 14 N) (I := jz0 I q) (L := jzL L q) (va_up_self _ _ _))
  simp only [jz0, jzL, jnw, va_up_self] at e
  rw [e] at hP hD
  exact kk q hq H1 locs ls hl hP hD hS
theorem j_newaB (E : jE G cc own Ts nL ret rm Rt) {m : Int32} (N : Nat) (hm : ¬ m < 0) (hN : m.toNatClampNeg = N) (hb : N * componentBytes .byte ≤ 536870912) (w1 : Cond.arrayClass .byte ∈ Ts) (h1 : k + 1 ≤ rm.cells) (h2 : n + N ≤ rm.slots) (d : decode cc pc = .ok (.newarray .byte, 2)) (kk : ∀ q, q ∉ Z.1 → jJ G nL (pc + 2) lv (.ref q :: st) (jnw Z q 13 N) (jz0 I q) (jzL L q) (k + 1) (n + N)) : jJ G nL pc lv (.int m :: st) Z I L k n := by
  intro H locs ls hl hP hD hS
  have eR := E.2.2.2.2.2.2.1
  refine va_newa (atype := .byte) (ty := .byte) (a0 := (N, .inl (fun _ => 0))) E.1.1 E.1.2.1 (E.1.2.2.2.2 _ w1) rfl E.2.1 hP hD hS E.2.2.1 (fun _ => rfl) hm hN hb (by rw [eR]; exact h1) (by rw [eR]; exact h2) d (fun q cA H1 hK1 hP hD hS => ?_)
  have hq := j_fresh hD
  have ecy := j_cyeq (t0 := 0) hK1 rfl (fun C h => by cases h)
  subst ecy
  have e := jw_push (X := gX G) (cy := gY G) (Z := Z) (I := I) (L := L) (q := q) (k := 13) (m := N) hq (jf_13 (cy := gY G) (Z := jnw Z q 13 N) (I := jz0 I q) (L := jzL L q) (va_up_self _ _ _))
  simp only [jz0, jzL, jnw, va_up_self] at e
  rw [e] at hP hD
  exact kk q hq H1 locs ls hl hP hD hS
theorem j_newaJ (E : jE G cc own Ts nL ret rm Rt) {m : Int32} (N : Nat) (hm : ¬ m < 0) (hN : m.toNatClampNeg = N) (hb : N * componentBytes .long ≤ 536870912) (w1 : Cond.arrayClass .long ∈ Ts) (h1 : k + 1 ≤ rm.cells) (h2 : n + N ≤ rm.slots) (d : decode cc pc = .ok (.newarray .long, 2)) (kk : ∀ q, q ∉ Z.1 → jJ G nL (pc + 2) lv (.ref q :: st) (jnw Z q 15 N) (jz0 I q) (jzL L q) (k + 1) (n + N)) : jJ G nL pc lv (.int m :: st) Z I L k n := by
  intro H locs ls hl hP hD hS
  have eR := E.2.2.2.2.2.2.1
  refine va_newa (atype := .long) (ty := .long) (a0 := (N, .inr (.inl (fun _ => 0)))) E.1.1 E.1.2.1 (E.1.2.2.2.2 _ w1) rfl E.2.1 hP hD hS E.2.2.1 (fun _ => rfl) hm hN hb (by rw [eR]; exact h1) (by rw [eR]; exact h2) d (fun q cA H1 hK1 hP hD hS => ?_)
  have hq := j_fresh hD
  have ecy := j_cyeq (t0 := 2) hK1 rfl (fun C h => by cases h)
  subst ecy
  have e := jw_push (X := gX G) (cy := gY G) (Z := Z) (I := I) (L := L) (q := q) (k := 15) (m := N) hq (jf_15 (cy := gY G) (Z := jnw Z q 15 N) (I := jz0 I q) (L := jzL L q) (va_up_self _ _ _))
  simp only [jz0, jzL, jnw, va_up_self] at e
  rw [e] at hP hD
  exact kk q hq H1 locs ls hl hP hD hS
theorem j_newaZ (E : jE G cc own Ts nL ret rm Rt) {m : Int32} (N : Nat) (hm : ¬ m < 0) (hN : m.toNatClampNeg = N) (hb : N * componentBytes .boolean ≤ 536870912) (w1 : Cond.arrayClass .boolean ∈ Ts) (h1 : k + 1 ≤ rm.cells) (h2 : n + N ≤ rm.slots) (d : decode cc pc = .ok (.newarray .boolean, 2)) (kk : ∀ q, q ∉ Z.1 → jJ G nL (pc + 2) lv (.ref q :: st) (jnw Z q 16 N) (jz0 I q) (jzL L q) (k + 1) (n + N)) : jJ G nL pc lv (.int m :: st) Z I L k n := by
  intro H locs ls hl hP hD hS
  have eR := E.2.2.2.2.2.2.1
  refine va_newa (atype := .boolean) (ty := .boolean) (a0 := (N, .inl (fun _ => 0))) E.1.1 E.1.2.1 (E.1.2.2.2.2 _ w1) rfl E.2.1 hP hD hS E.2.2.1 (fun _ => rfl) hm hN hb (by rw [eR]; exact h1) (by rw [eR]; exact h2) d (fun q cA H1 hK1 hP hD hS => ?_)
  have hq := j_fresh hD
  have ecy := j_cyeq (t0 := 3) hK1 rfl (fun C h => by cases h)
  subst ecy
  have e := jw_push (X := gX G) (cy := gY G) (Z := Z) (I := I) (L := L) (q := q) (k := 16) (m := N) hq (jf_16 (cy := gY G) (Z := jnw Z q 16 N) (I := jz0 I q) (L := jzL L q) (va_up_self _ _ _))
  simp only [jz0, jzL, jnw, va_up_self] at e
  rw [e] at hP hD
  exact kk q hq H1 locs ls hl hP hD hS
theorem j_newqK (E : jE G cc own Ts nL ret rm Rt) {m : Int32} {i : Nat} (N : Nat) (hm : ¬ m < 0) (hN : m.toNatClampNeg = N) (hb : N * 4 ≤ 536870912) (w1 : Cond.classLink own i RX2 ∈ Ts) (h1 : k + 1 ≤ rm.cells) (h2 : n + N ≤ rm.slots) (d : decode cc pc = .ok (.anewarray i, 3)) (kk : ∀ q, q ∉ Z.1 → jJ G nL (pc + 3) lv (.ref q :: st) (jnw Z q 17 N) (jz0 I q) (jzL L q) (k + 1) (n + N)) : jJ G nL pc lv (.int m :: st) Z I L k n := by
  intro H locs ls hl hP hD hS
  have eR := E.2.2.2.2.2.2.1
  refine va_newq E.1.1 E.1.2.1 E.1.2.2.2.1 (E.1.2.2.2.2 _ w1) E.2.2.2.1.2.2.1 E.2.1 hP hD hS E.2.2.1 hm hN hb (by rw [eR]; exact h1) (by rw [eR]; exact h2) d (fun q cA H1 hK1 hP hD hS => ?_)
  have hq := j_fresh hD
  have ecy := j_cyeqO (t0 := 4) hK1 rfl
  subst ecy
  have e := jw_push (X := gX G) (cy := gY G) (Z := Z) (I := I) (L := L) (q := q) (k := 17) (m := N) hq (jf_17 (cy := gY G) (Z := jnw Z q 17 N) (I := jz0 I q) (L := jzL L q) (va_up_self _ _ _))
  simp only [jnw, va_up_self] at e
  rw [e] at hP hD
  exact kk q hq H1 locs ls hl hP hD hS
theorem j_newqP (E : jE G cc own Ts nL ret rm Rt) {m : Int32} {i : Nat} (N : Nat) (hm : ¬ m < 0) (hN : m.toNatClampNeg = N) (hb : N * 4 ≤ 536870912) (w1 : Cond.classLink own i RX5 ∈ Ts) (h1 : k + 1 ≤ rm.cells) (h2 : n + N ≤ rm.slots) (d : decode cc pc = .ok (.anewarray i, 3)) (kk : ∀ q, q ∉ Z.1 → jJ G nL (pc + 3) lv (.ref q :: st) (jnw Z q 18 N) (jz0 I q) (jzL L q) (k + 1) (n + N)) : jJ G nL pc lv (.int m :: st) Z I L k n := by
  intro H locs ls hl hP hD hS
  have eR := E.2.2.2.2.2.2.1
  refine va_newq E.1.1 E.1.2.1 E.1.2.2.2.1 (E.1.2.2.2.2 _ w1) E.2.2.2.1.2.1 E.2.1 hP hD hS E.2.2.1 hm hN hb (by rw [eR]; exact h1) (by rw [eR]; exact h2) d (fun q cA H1 hK1 hP hD hS => ?_)
  have hq := j_fresh hD
  have ecy := j_cyeqO (t0 := 5) hK1 rfl
  subst ecy
  have e := jw_push (X := gX G) (cy := gY G) (Z := Z) (I := I) (L := L) (q := q) (k := 18) (m := N) hq (jf_18 (cy := gY G) (Z := jnw Z q 18 N) (I := jz0 I q) (L := jzL L q) (va_up_self _ _ _))
  simp only [jnw, va_up_self] at e
  rw [e] at hP hD
  exact kk q hq H1 locs ls hl hP hD hS
theorem j_putrF (E : jE G cc own Ts nL ret rm Rt) (hini : (gH G).name = "<init>") {i a : Nat} (c j : Nat) {C ref : String} {T : u_T} {N : Nat} {v : Nat} (hcl : vwCl[c]? = some (C, T, N)) (hN : N = jnum c) (hc : c < 13) (hj : j < N) (hin : ∀ w ∈ u_ws C T N, w ∈ Ts) (hty : ∀ k, k < N → parseFieldDescriptor (T k).2.2.1 = some (jty c k)) (hnm : ∀ a, a < N → ∀ b, b < N → a ≠ b → (T a).2.1 ≠ (T b).2.1) (ht : jref (jty c j) = true) (href : (T j).1 = ref) (hlk : Cond.fieldLink own i ref (T j).2.1 (T j).2.2.1 ∈ Ts) (hfin : (T j).2.2.2 = true) (hdecl : (T j).1 = own) (hk : jk Z a c) (d : decode cc pc = .ok (.putfield i, 3)) (kk : jJ G nL (pc + 3) lv st (jpR Z a j (some v)) I L k n) : jJ G nL pc lv (.ref v :: .ref a :: st) Z I L k n := by
  intro H locs ls hl hP hD hS
  have hD0 := hD
  obtain ⟨q, hq⟩ := jw_get (X := gX G) (cy := gY G) (I := I) (L := L) hk.1
  have hq0 := hq
  rw [jf_obj hk.2 hc] at hq
  subst hN
  have hnf : narrow (jty c j) (.ref v) = .ref v ∧ fits (jty c j) (.ref v) = true := by
    generalize jty c j = t at ht
    cases t <;> first | exact ⟨rfl, rfl⟩ | cases ht
  refine va_putF E.1.1 E.1.2.1 E.1.2.2.2.2 hin (jty c) hty hnm E.1.2.2.2.1 E.2.1 hP hD hS q hq hcl j hj (E.1.2.2.2.2 _ hlk) (by rw [href]; exact fun _ h => h) hfin hini hdecl (hty j hj) hnf.1 hnf.2 (by rw [jfs_len]; exact hj) d (fun H locs hP hD hS => ?_)
  rw [show (Value.ref v) = va_rf (some v) from rfl, jfs_setR hj ht] at hP hD
  have e := jw_set (X := gX G) (cy := gY G) (Z := Z) (Z' := jpR Z a j (some v)) (I := I) (I' := I) (L := L) (L' := L) (a := a) (q := q) (e := .inr (c, jfs c (I a) (L a) (va_up (Z.2.2.2 a) j (some v)))) hD0 hk.1 hq0 rfl (by rw [jf_obj (Z := jpR Z a j (some v)) hk.2 hc]; simp [jpR, va_up]) (fun b hb => jf_R_ne hb)
  rw [e] at hP hD
  exact kk H locs ls hl hP hD hS
theorem j_putiF (E : jE G cc own Ts nL ret rm Rt) (hini : (gH G).name = "<init>") {i a : Nat} (c j : Nat) {C ref : String} {T : u_T} {N : Nat} {v : Int32} (hcl : vwCl[c]? = some (C, T, N)) (hN : N = jnum c) (hc : c < 13) (hj : j < N) (hin : ∀ w ∈ u_ws C T N, w ∈ Ts) (hty : ∀ k, k < N → parseFieldDescriptor (T k).2.2.1 = some (jty c k)) (hnm : ∀ a, a < N → ∀ b, b < N → a ≠ b → (T a).2.1 ≠ (T b).2.1) (ht : jint (jty c j) = true) (href : (T j).1 = ref) (hlk : Cond.fieldLink own i ref (T j).2.1 (T j).2.2.1 ∈ Ts) (hfin : (T j).2.2.2 = true) (hdecl : (T j).1 = own) (hnar : narrow (jty c j) (.int v) = .int v) (hfit : fits (jty c j) (.int v) = true) (hk : jk Z a c) (d : decode cc pc = .ok (.putfield i, 3)) (kk : jJ G nL (pc + 3) lv st Z (jpI I a j v) L k n) : jJ G nL pc lv (.int v :: .ref a :: st) Z I L k n := by
  intro H locs ls hl hP hD hS
  have hD0 := hD
  obtain ⟨q, hq⟩ := jw_get (X := gX G) (cy := gY G) (I := I) (L := L) hk.1
  have hq0 := hq
  rw [jf_obj hk.2 hc] at hq
  subst hN
  refine va_putF E.1.1 E.1.2.1 E.1.2.2.2.2 hin (jty c) hty hnm E.1.2.2.2.1 E.2.1 hP hD hS q hq hcl j hj (E.1.2.2.2.2 _ hlk) (by rw [href]; exact fun _ h => h) hfin hini hdecl (hty j hj) hnar hfit (by rw [jfs_len]; exact hj) d (fun H locs hP hD hS => ?_)
  rw [jfs_setI hj ht] at hP hD
  have e := jw_set (X := gX G) (cy := gY G) (Z := Z) (Z' := Z) (I := I) (I' := jpI I a j v) (L := L) (L' := L) (a := a) (q := q) (e := .inr (c, jfs c (upd (I a) j v) (L a) (Z.2.2.2 a))) hD0 hk.1 hq0 rfl (by rw [jf_obj hk.2 hc]; simp [jpI, va_up]) (fun b hb => jf_I_ne hb)
  rw [e] at hP hD
  exact kk H locs ls hl hP hD hS
/-- a reference goes into an array of references -/
theorem j_aastK (E : jE G cc own Ts nL ret rm Rt) {a v : Nat} {i : Int32} (hk : jk Z a 17) (hi : vp_in i (jlen Z a)) (hv : jk Z v 2) (d : decode cc pc = .ok (.aastore, 1)) (kk : jJ G nL (pc + 1) lv st (jpR Z a i.toNatClampNeg (some v)) I L k n) : jJ G nL pc lv (.ref v :: .int i :: .ref a :: st) Z I L k n := by
  intro H locs ls hl hP hD hS
  have hD0 := hD
  obtain ⟨q, hq⟩ := jw_get (X := gX G) (cy := gY G) (I := I) (L := L) hk.1
  obtain ⟨qv, hqv⟩ := jw_get (X := gX G) (cy := gY G) (I := I) (L := L) hv.1
  have hq0 := hq
  rw [jf_17 hk.2] at hq
  rw [jf_obj hv.2 (by decide)] at hqv
  refine va_astq E.1.1 E.1.2.1 E.2.1 hP hD hS q 4 qv 2 (r := (RX2, TX2, jnum 2)) hq rfl hqv rfl hi d (fun H locs hP hD hS => ?_)
  have e := jw_set (X := gX G) (cy := gY G) (Z := Z) (Z' := jpR Z a i.toNatClampNeg (some v)) (I := I) (I' := I) (L := L) (L' := L) (a := a) (q := q) hD0 hk.1 hq0 rfl (by rw [jf_17 (Z := jpR Z a i.toNatClampNeg (some v)) hk.2]) (fun b hb => jf_R_ne hb)
  simp only [jpR, va_up_self] at e
  rw [e] at hP hD
  exact kk H locs ls hl hP hD hS
theorem j_aastP (E : jE G cc own Ts nL ret rm Rt) {a v : Nat} {i : Int32} (hk : jk Z a 18) (hi : vp_in i (jlen Z a)) (hv : jk Z v 5) (d : decode cc pc = .ok (.aastore, 1)) (kk : jJ G nL (pc + 1) lv st (jpR Z a i.toNatClampNeg (some v)) I L k n) : jJ G nL pc lv (.ref v :: .int i :: .ref a :: st) Z I L k n := by
  intro H locs ls hl hP hD hS
  have hD0 := hD
  obtain ⟨q, hq⟩ := jw_get (X := gX G) (cy := gY G) (I := I) (L := L) hk.1
  obtain ⟨qv, hqv⟩ := jw_get (X := gX G) (cy := gY G) (I := I) (L := L) hv.1
  have hq0 := hq
  rw [jf_18 hk.2] at hq
  rw [jf_obj hv.2 (by decide)] at hqv
  refine va_astq E.1.1 E.1.2.1 E.2.1 hP hD hS q 5 qv 5 (r := (RX5, TX5, jnum 5)) hq rfl hqv rfl hi d (fun H locs hP hD hS => ?_)
  have e := jw_set (X := gX G) (cy := gY G) (Z := Z) (Z' := jpR Z a i.toNatClampNeg (some v)) (I := I) (I' := I) (L := L) (L' := L) (a := a) (q := q) hD0 hk.1 hq0 rfl (by rw [jf_18 (Z := jpR Z a i.toNatClampNeg (some v)) hk.2]) (fun b hb => jf_R_ne hb)
  simp only [jpR, va_up_self] at e
  rw [e] at hP hD
  exact kk H locs ls hl hP hD hS
theorem j_objinit (E : jE G cc own Ts nL ret rm Rt) {i a : Nat} (w1 : Cond.methodLink own i Lib.objectInit ∈ Ts) (w2 : Cond.instanceMethod Lib.objectInit ∈ Ts) (w3 : Cond.code Lib.objectInit ⟨#[0xb1]⟩ 1 none ∈ Ts) (h1 : 1 ≤ rm.frames) (h2 : (st.map fun v => v.category).sum + 12 ≤ rm.locals) (d : decode cc pc = .ok (.invokespecial i, 3)) (kk : jJ G nL (pc + 3) lv st Z I L k n) : jJ G nL pc lv (.ref a :: st) Z I L k n := by
  intro H locs ls hl hP hD hS
  have eR := E.2.2.2.2.2.2.1
  refine W.objInit E.1.1 E.1.2.1 E.1.2.2.2.1 (E.1.2.2.2.2 _ w1) (E.1.2.2.2.2 _ w2) (E.1.2.2.2.2 _ w3) rfl (by rw [E.1.2.2.1]; exact hl.1) rfl d (by rw [eR]; exact h1) (by rw [eR]; show 2 * 0 + _ + 12 ≤ _; omega) (kk H locs ls hl hP hD hS)
theorem j_callI (E : jE G cc own Ts nL ret rm Rt) {y : MethodName} {ws ws' : List Cond} {rm' : Room} {bytes : ByteArray} {maxL : Nat} {i b na : Nat} {Rt' : jRt} (As rest : List Value)
    (hM : jCt (gL G) y ws rm' (gD G) (gY G) (.ref b :: As) Z I L Rt') (hg : GoodIn Ts ws) (hw : ws = Cond.code y bytes maxL none :: ws') (hini : Cond.initialized y.cls ∈ Ts) (hlk : Cond.methodLink own i y ∈ Ts) (hinst : Cond.instanceMethod y ∈ Ts) (hy1 : y.name = "<init>")
    (hd : y.cls ≠ "java/lang/invoke/MethodHandle" ∧ y.cls ≠ "java/lang/invoke/VarHandle" ∧ (parseMethodDescriptor y.desc).map (fun d => d.parameters.length) = some na)
    (hR : rm'.frames + 1 ≤ rm.frames ∧ 8 + (maxL + 11) + rm'.locals ≤ rm.locals) (hn : As.length = na) (hst : st = As.reverse ++ .ref b :: rest) (hcat : (rest.map fun v => v.category).sum ≤ 8)
    (hf : k + rm'.cells ≤ rm.cells ∧ n + rm'.slots ≤ rm.slots) (d : decode cc pc = .ok (.invokespecial i, 3))
    (kk : ∀ v Z' I' L', Rt' v Z' I' L' → jJ G nL (pc + 3) lv (v.toList ++ rest) Z' I' L' (k + rm'.cells) (n + rm'.slots)) : jJ G nL pc lv st Z I L k n := by
  intro H locs ls hl hP hD hS
  have eR := E.2.2.2.2.2.2.1
  have hrun := va_runI (p := gP G) (l := gL G) (e := gE G) (R := gR G) (s := gS G) (m := gM G) (args := gV G) (below := gB G) (meth := gH G) (c := gC G) (H := H) (locs := locs) (cells := k) (slots := n) (g := F0 (gM G) pc ls st) (As := As) (rest := rest) E.1 (hM H.size) (cwI na E.1.2.2.2.2 hg hw rfl rfl (E.1.2.2.2.2 _ hini) (E.1.2.2.2.2 _ hlk) (E.1.2.2.2.2 _ hinst) hy1 hd (by rw [eR]; exact hR))
    ⟨jP_blind, fun U hU hW => ⟨rfl, by rw [hU], by rw [hU]; exact j_cutP hP, va_K.moved hW.alike E.2.1, (j_cutD hD).weaken (fun _ _ _ _ => trivial), jN_warm hW E.2.2.2.1⟩⟩ rfl hn hl.1 hst (lv_room hcat) d (by rw [eR]; exact hf)
  exact j_back E hrun hl hP hD hS kk
theorem j_callIN (E : jE G cc own Ts nL ret rm Rt) {y : MethodName} {ws ws' : List Cond} {rm' : Room} {bytes : ByteArray} {maxL : Nat} {host : String} {i b na : Nat} {Rt' : jRt} (As rest : List Value)
    (hM : jCt (gL G) y ws rm' (gD G) (gY G) (.ref b :: As) Z I L Rt') (hg : GoodIn Ts ws) (hw : ws = Cond.code y bytes maxL none :: ws') (hlk : Cond.methodLinkNest own i y host ∈ jnest) (hini : Cond.initialized y.cls ∈ Ts) (hinst : Cond.instanceMethod y ∈ Ts) (hy1 : y.name = "<init>")
    (hd : y.cls ≠ "java/lang/invoke/MethodHandle" ∧ y.cls ≠ "java/lang/invoke/VarHandle" ∧ (parseMethodDescriptor y.desc).map (fun d => d.parameters.length) = some na)
    (hR : rm'.frames + 1 ≤ rm.frames ∧ 8 + (maxL + 11) + rm'.locals ≤ rm.locals) (hn : As.length = na) (hst : st = As.reverse ++ .ref b :: rest) (hcat : (rest.map fun v => v.category).sum ≤ 8)
    (hf : k + rm'.cells ≤ rm.cells ∧ n + rm'.slots ≤ rm.slots) (d : decode cc pc = .ok (.invokespecial i, 3))
    (kk : ∀ v Z' I' L', Rt' v Z' I' L' → jJ G nL (pc + 3) lv (v.toList ++ rest) Z' I' L' (k + rm'.cells) (n + rm'.slots)) : jJ G nL pc lv st Z I L k n := by
  intro H locs ls hl hP hD hS
  have eR := E.2.2.2.2.2.2.1
  have hrun := va_runIN (p := gP G) (l := gL G) (e := gE G) (R := gR G) (s := gS G) (m := gM G) (args := gV G) (below := gB G) (meth := gH G) (c := gC G) (H := H) (locs := locs) (cells := k) (slots := n) (g := F0 (gM G) pc ls st) (As := As) (rest := rest) E.1 (hM H.size) ⟨va_cnB na E.1.2.2.2.2 hg hw rfl rfl (E.2.2.2.1.1 _ hlk) (E.1.2.2.2.2 _ hini) hd (by rw [eR]; exact hR), hy1, E.1.2.2.2.2 _ hinst⟩
    ⟨jP_blind, fun U hU hW => ⟨rfl, by rw [hU], by rw [hU]; exact j_cutP hP, va_K.moved hW.alike E.2.1, (j_cutD hD).weaken (fun _ _ _ _ => trivial), jN_warm hW E.2.2.2.1⟩⟩ rfl hn hl.1 hst (lv_room hcat) d (by rw [eR]; exact hf)
  exact j_back E hrun hl hP hD hS kk
/-- a constructor's contract, from the walk of its body -/
theorem jCt_ofI {l : Launch} {y : MethodName} {ws ws' : List Cond} {rm : Room} {D : va_G} {cy : jC} {as : List Value} {Rt : jRt} {cc : ByteArray} {maxL : Nat} {ret : Option FieldType} (hy : plainName y.cls = true) (hw : ws = Cond.code y cc maxL ret :: ws') (hlen : (lg_sl as).length ≤ maxL)
    (h : ∀ G : jG, gD G = D → gY G = cy → gL G = l → (gH G).name = y.name → jE G cc y.cls ws maxL ret rm Rt → jJ G maxL 0 (lv_args 0 as) [] Z I L 0 0) : jCt l y ws rm D cy as Z I L Rt := by
  intro sz
  refine Met.ofW (cc := cc) (maxL := maxL) (ret := ret) hy hw ?_
  intro p e s m args below meth c s₁ B hml hv
  obtain ⟨rfl, hsz, hP, hK, hD0, hN⟩ := hv
  subst hsz
  have hD := hD0.self (sz := s.heap.size)
  have hown : s.vm.findClass y.cls = some m.cls := findClass_of_methodNamed B.named
  have hl := lv_entry as (n := maxL) hlen
  rw [lg_entry_eq]
  generalize (lg_sl as ++ List.replicate (maxL - (lg_sl as).length) Slot.unset).toArray = ls at hl ⊢
  have key := h ((p, l, e, (headSpec ws rm).room, s, m, as.toArray, below, meth, c), D, cy, [], va_A (jw cy Z I L) s.heap.size, MQ below (jQ D cy Rt (va_A (jw cy Z I L) s.heap.size)) as.toArray s rm.cells rm.slots (va_A (jw cy Z I L) s.heap.size)) rfl rfl rfl (name_of_methodNamed B.named B.method).1
    ⟨⟨B.exec, B.bytes, hml, hown, atoms_spec (ws := ws) B.pre⟩, hK, fun q h => Or.inr h, hN, B.returns, B.notSynchronized, rfl, fun _ h => h⟩
  exact key s.heap [] ls hl hP hD va_S.rf
end JNEW
/-! ===== new byte[2][40] ===== -/
theorem jw_pushG {X : va_W} {cy : jC} {Z Z' : jZ} {I I' : jI} {L L' : jL} {q : Nat} {e : va_E} (hq : q ∉ Z.1) (h1 : Z'.1 = Z.1 ++ [q]) (he : jf cy Z' I' L' q = e) (ho : ∀ b, b ≠ q → jf cy Z' I' L' b = jf cy Z I L b) : (X ++ jw cy Z I L) ++ [(q, e)] = X ++ jw cy Z' I' L' := by
  unfold jw
  rw [List.append_assoc, va_pl_push hq, h1]
  congr 1
  apply va_pl_congr
  intro b
  by_cases hb : b = q
  · subst hb
    rw [va_up_self, he]
  · rw [va_up_ne _ _ hb, ho b hb]
section JMNA
variable {G : jG} {cc : ByteArray} {own : String} {Ts : List Cond} {nL : Nat} {ret : Option FieldType} {rm : Room} {Rt : jRt} {pc : Nat} {lv : List (Nat × Value)} {st : List Value} {Z : jZ} {I : jI} {L : jL} {k n : Nat}
/-- the two rows, the row of rows, and what it holds -/
abbrev jnw2 (Z : jZ) (r0 r1 q : Nat) : jZ := jpR (jpR (jnw (jnw (jnw Z r0 13 40) r1 13 40) q 19 2) q 0 (some r0)) q 1 (some r1)
abbrev jz2 (I : jI) (r0 r1 q : Nat) : jI := jz0 (jz0 (jz0 I r0) r1) q
abbrev jzL2 (L : jL) (r0 r1 q : Nat) : jL := jzL (jzL (jzL L r0) r1) q
theorem j_mna (E : jE G cc own Ts nL ret rm Rt) {i : Nat} (w1 : Cond.classLink own i "[[B" ∈ Ts) (w2 : Cond.arrayClass .byte ∈ Ts) (h1 : k + 3 ≤ rm.cells) (h2 : n + 82 ≤ rm.slots) (d : decode cc pc = .ok (.multianewarray i 2, 4)) (kk : ∀ r0 r1 q, r0 ∉ Z.1 → r1 ∉ (jnw Z r0 13 40).1 → q ∉ (jnw (jnw Z r0 13 40) r1 13 40).1 → jJ G nL (pc + 4) lv (.ref q :: st) (jnw2 Z r0 r1 q) (jz2 I r0 r1 q) (jzL2 L r0 r1 q) (k + 1 + 2) (n + 2 + 2 * 40)) : jJ G nL pc lv (.int 40 :: .int 2 :: st) Z I L k n := by
  intro H locs ls hl hP hD hS
  have eR := E.2.2.2.2.2.2.1
  have hcy : (gS G).vm.findClass (FieldType.array .byte).toString = some (gY G).1 := (E.2.1.2 0 ((gY G).1, .byte) rfl).2
  refine va_mna (X := gX G) (L := Z.1) (f := jf (gY G) Z I L) (ty := .byte) (cy := (gY G).1) (N' := 2) (K' := 40) (z := (40, .inl (fun _ => 0))) E.1.1 E.1.2.1 E.1.2.2.2.1 (E.1.2.2.2.2 _ w1) E.2.2.2.1.2.2.2 (E.1.2.2.2.2 _ w2) hcy E.2.1 hP hD hS E.2.2.1 (by decide) (by decide) (by decide) (by decide) (by decide) (by decide) (by decide) (by decide) (by decide) (by rw [eR]; exact h1) (by rw [eR]; exact h2) ?_ d ?_
  · intro c
    rw [vp_cell_i]
    simp [Jvm.Free.Multi.innerC, arrV_new]
    rfl
  · intro q r cA H1 hinj hnew hK1 hP hD hS
    have hcA : cA = (gY G).2.2.2.2.2.2 := j_cyeq (t0 := 6) hK1 rfl (fun C h => by cases h)
    subst hcA
    have hr0 : r 0 ∉ Z.1 := hnew 0 (by decide)
    have hr1 : r 1 ∉ Z.1 := hnew 1 (by decide)
    have hne : r 1 ≠ r 0 := fun h => by have := hinj 1 0 (by decide) (by decide) h; omega
    have hP := va_P.swap hP
    have hD := va_D.swap hD
    have ew : va_pl (Z.1 ++ (List.range 2).map r) (vr_up (jf (gY G) Z I L) ((List.range 2).map r) (.inl ((gY G).1, 40, .inl (fun _ => 0)))) = jw (gY G) (jnw (jnw Z (r 0) 13 40) (r 1) 13 40) (jz0 (jz0 I (r 0)) (r 1)) (jzL (jzL L (r 0)) (r 1)) := by
      have e1 := jw_push (X := []) (cy := gY G) (Z := Z) (I := I) (L := L) (q := r 0) (k := 13) (m := 40) hr0 (jf_13 (va_up_self _ _ _))
      have e2 := jw_push (X := []) (cy := gY G) (Z := jnw Z (r 0) 13 40) (I := jz0 I (r 0)) (L := jzL L (r 0)) (q := r 1) (k := 13) (m := 40) (fun h => (List.mem_append.mp h).elim hr1 (fun h => hne (List.mem_singleton.mp h))) (jf_13 (va_up_self _ _ _))
      simp only [List.nil_append] at e1 e2
      rw [← e2, ← e1]
      simp only [jnw, jz0, va_up_self]
      show va_pl (Z.1 ++ [r 0, r 1]) _ = va_pl Z.1 _ ++ [_] ++ [_]
      rw [List.append_assoc, va_pl, List.map_append]
      congr 1
      · apply List.map_congr_left
        intro a ha
        rw [vr_up_ne]
        intro h
        rcases List.mem_cons.mp h with h | h
        · exact hr0 (h ▸ ha)
        · exact hr1 (List.mem_singleton.mp h ▸ ha)
      · show [(r 0, _), (r 1, _)] = [(r 0, _), (r 1, _)]
        rw [vr_up_in (show r 0 ∈ List.map r (List.range 2) from List.mem_map.mpr ⟨0, by decide, rfl⟩), vr_up_in (show r 1 ∈ List.map r (List.range 2) from List.mem_map.mpr ⟨1, by decide, rfl⟩)]
    rw [ew] at hP hD
    have hq := j_fresh hD
    have e3 := jw_pushG (X := gX G) (cy := gY G) (Z := jnw (jnw Z (r 0) 13 40) (r 1) 13 40) (Z' := jnw2 Z (r 0) (r 1) q) (I := jz0 (jz0 I (r 0)) (r 1)) (I' := jz2 I (r 0) (r 1) q) (L := jzL (jzL L (r 0)) (r 1)) (L' := jzL2 L (r 0) (r 1) q) (q := q) (e := .inl ((gY G).2.2.2.2.2.2, 2, .inr (.inr (.inr (.inr (fun i => if i < 2 then some (r i) else none)))))) hq rfl (by
        rw [jf_19 (Z := jnw2 Z (r 0) (r 1) q) (va_up_self _ _ _)]
        have e4 : (jnw2 Z (r 0) (r 1) q).2.2.2 q = fun i => if i < 2 then some (r i) else none := by
          funext j
          simp only [jnw2, jpR, va_up_self]
          rcases (show j = 0 ∨ j = 1 ∨ 2 ≤ j by omega) with rfl | rfl | hj
          · simp [va_up]
          · simp [va_up]
          · simp [va_up, show ¬ j < 2 by omega, show j ≠ 0 by omega, show j ≠ 1 by omega]
        rw [e4]
        simp only [jnw2, jpR, jnw, va_up_self]) (fun b hb => by simp [jf, jnw2, jpR, jnw, jz2, jzL2, jz0, jzL, va_up_ne _ _ hb])
    rw [e3] at hP hD
    exact kk (r 0) (r 1) q hr0 (fun h => (List.mem_append.mp h).elim hr1 (fun h => hne (List.mem_singleton.mp h))) hq H1 locs ls hl hP hD hS
end JMNA
