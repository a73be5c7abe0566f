/-! ===== a new pool ===== -/
/-- every cell is whole, and as its constructor left it -/
def NEW (Z : jZ) (I : jI) (L : jL) : Prop := SH Z ∧ ∀ a c, jk Z a c → fr1 I L a c
theorem SH_of {Z : jZ} (h : ∀ a c, jk Z a c → sh1 Z [] a c) : SH Z := by
  refine ⟨fun a c ha j k o e => ?_, fun a ha i b e => ((h a 18 ha).2.1 rfl i b e).2, fun a ha i hi => ?_, fun a ha i hi => ?_⟩
  · obtain ⟨b, h1, -, h3, h4⟩ := (h a c ha).1 j k o e
    exact ⟨b, h1, h3, h4⟩
  · obtain ⟨b, h1, -, h3⟩ := (h a 17 ha).2.2.1 rfl i hi
    exact ⟨b, h1, h3⟩
  · obtain ⟨b, h1, -, h3, h4⟩ := (h a 19 ha).2.2.2 rfl i hi
    exact ⟨b, h1, h3, h4⟩
theorem law_new {xs : Nat → Int32} {Ls : Nat} (h : ∀ v1 v2 v3 Z I L, NEW Z I L → jk Z v1 11 → jk Z v2 12 → jk Z v3 15 → jlen Z v3 = 1 → f_L_law_L23 xs Ls 2 v1 v2 v3 0 Z I L) : f_L_law xs Ls := by
  unfold f_L_law
  intro q1 n1 Z1 eZ1 I1 eI1 L1 eL1
  have c0 : CI (jZe, jIe, jLe) jZe jIe jLe [] := ⟨jext_rfl, fun a ha => absurd ha List.not_mem_nil, fun a c ha => absurd ha.1 List.not_mem_nil⟩
  have c1 := CI_nw (k := 11) (m := 0) c0 n1
  rw [← eZ1, ← eI1, ← eL1] at c1
  refine p_X11_init (jZe, jIe, jLe) Z1 I1 L1 [] q1 _ c1 (by rw [eZ1]; exact jk_nw) List.not_mem_nil List.not_mem_nil (fun u hu => absurd hu List.not_mem_nil) (fun j => by rw [eI1]; exact congrFun (va_up_self _ _ _) j) (fun j => by rw [eL1]; exact congrFun (va_up_self _ _ _) j) (fun Z2 I2 L2 c2 x2 _ => ?_)
  intro q2 n2 Z3 eZ3 I3 eI3 L3 eL3
  have k1 : jk Z2 q1 11 := (x2 _ _ (by rw [eZ1]; exact jk_nw)).1
  have c3 := CI_nw (k := 12) (m := 0) c2 n2
  rw [← eZ3, ← eI3, ← eL3] at c3
  have k1' : jk Z3 q1 11 := by rw [eZ3]; exact ((jext_nw n2) _ _ k1).1
  refine p_X12_init (jZe, jIe, jLe) Z3 I3 L3 [] q2 _ c3 (by rw [eZ3]; exact jk_nw) List.not_mem_nil List.not_mem_nil (fun u hu => absurd hu List.not_mem_nil) (fun j => by rw [eI3]; exact congrFun (va_up_self _ _ _) j) (fun j => by rw [eL3]; exact congrFun (va_up_self _ _ _) j) (fun Z4 I4 L4 c4 x4 _ => ?_)
  intro q3 n3 Z5 eZ5 I5 eI5 L5 eL5
  have k2 : jk Z4 q2 12 := (x4 _ _ (by rw [eZ3]; exact jk_nw)).1
  have k1 : jk Z4 q1 11 := (x4 _ _ k1').1
  have c5 := CI_nw (k := 15) (m := 1) c4 n3
  rw [← eZ5, ← eI5, ← eL5] at c5
  have k3 : jk Z5 q3 15 := by rw [eZ5]; exact jk_nw
  have c6 := CI_done c5 k3 List.not_mem_nil ⟨fun j k o e => jsh_no (by decide) e, fun e => by omega, fun e => by omega, fun e => by omega⟩ ⟨fun j => by rw [eI5]; exact (congrFun (va_up_self _ _ _) j).trans (by simp [jz]), fun j => by rw [eL5]; exact congrFun (va_up_self _ _ _) j⟩
  have hs : SH Z5 := SH_of (fun a c ha => (c6.2.2 a c ha List.not_mem_nil List.not_mem_nil).1)
  refine ⟨hs, 2, by decide, h q1 q2 q3 Z5 I5 L5 ⟨hs, fun a c ha => (c6.2.2 a c ha List.not_mem_nil List.not_mem_nil).2⟩ ?_ ?_ k3 ?_⟩
  · rw [eZ5]; exact ((jext_nw n3) _ _ k1).1
  · rw [eZ5]; exact ((jext_nw n3) _ _ k2).1
  · rw [eZ5]; exact jlen_nw
