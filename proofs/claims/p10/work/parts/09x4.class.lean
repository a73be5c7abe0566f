/-! ===== prices, efforts, owners of a world, as told; worlds of one class have the same ===== -/
def A0L : List Nat := [1, 2, 3, 4, 5, 6, 11, 12, 13, 30]
def A0W : List (Nat × Nat) := [(12, 1), (12, 2), (12, 3), (12, 4), (12, 5), (12, 6), (12, 11), (12, 12), (12, 13), (12, 30), (19, 0), (19, 1)]
theorem shA {Z : jZ} {v0 j : Nat} (h : SH Z) (k : jk Z v0 12) (hj : j ∈ ([1, 2, 3, 4, 5, 6, 11, 12, 13, 30] : List Nat)) : ∃ b, jr Z v0 j = some b ∧ jia (Z.2.1 b) = true ∧ b ≠ v0 := by
  have key : ∀ (m kd : Nat), jia kd = true → (∃ b, jr Z v0 j = some b ∧ jk Z b kd ∧ jlen Z b = m) → ∃ b, jr Z v0 j = some b ∧ jia (Z.2.1 b) = true ∧ b ≠ v0 := fun m kd hk ⟨b, e, kb, _⟩ => ⟨b, e, by rw [kb.2]; exact hk, fun q => by
    subst q
    rw [kb.2.symm.trans k.2] at hk
    cases hk⟩
  simp only [List.mem_cons, List.not_mem_nil, or_false] at hj
  rcases hj with rfl | rfl | rfl | rfl | rfl | rfl | rfl | rfl | rfl | rfl
  · exact key 24 14 rfl (sh_f h k (j := 1) (k := 14) (m := 24) rfl)
  · exact key 24 14 rfl (sh_f h k (j := 2) (k := 14) (m := 24) rfl)
  · exact key 24 14 rfl (sh_f h k (j := 3) (k := 14) (m := 24) rfl)
  · exact key 24 16 rfl (sh_f h k (j := 4) (k := 16) (m := 24) rfl)
  · exact key 192 14 rfl (sh_f h k (j := 5) (k := 14) (m := 192) rfl)
  · exact key 64 16 rfl (sh_f h k (j := 6) (k := 16) (m := 64) rfl)
  · exact key 6 14 rfl (sh_f h k (j := 11) (k := 14) (m := 6) rfl)
  · exact key 6 14 rfl (sh_f h k (j := 12) (k := 14) (m := 6) rfl)
  · exact key 6 14 rfl (sh_f h k (j := 13) (k := 14) (m := 6) rfl)
  · exact key 2 14 rfl (sh_f h k (j := 30) (k := 14) (m := 2) rfl)
theorem A0L_W : ∀ j ∈ ([1, 2, 3, 4, 5, 6, 11, 12, 13, 30] : List Nat), (12, j) ∈ A0W ∧ j ≠ 23 := by decide
theorem jsr12 {j : Nat} (h : j ≠ 23) : jsr 12 j = false := by
  unfold jsr; simp [h]
theorem A0_FR {E : Prop} {W : List (Nat × Nat)} {v0 : Nat} {Z Z' : jZ} {I I' : jI} {L L' : jL} (w : WD Z I) (k : jk Z v0 12) (q : FR W Z I Z' I') (hW : ∀ p ∈ A0W, p ∉ W) (he : E → Z' = Z ∧ I' = I ∧ L' = L) : A0 E v0 Z I L Z' I' L' := by
  refine ⟨he, fun j hj => ?_, ?_⟩
  · obtain ⟨b, e, kb, nb⟩ := shA w.1 k hj
    have hm := A0L_W j hj
    refine ⟨b, e, (q.2.1 v0 12 j k (fun h => by cases h.1) (fun h => hm.2 h.2)).trans e, nb, q.2.2.2 v0 12 j b k e kb (jsr12 hm.2) (hW _ hm.1)⟩
  · obtain ⟨b, e, kb, lb⟩ := sh_f w.1 k (j := 29) (k := 19) (m := 2) rfl
    refine ⟨b, e, (q.2.1 v0 12 29 k (fun h => by cases h.1) (fun h => by cases h.2)).trans e, (fun h => by subst h; cases kb.2.symm.trans k.2), fun i hi => ?_⟩
    obtain ⟨c, f1, f2, f3⟩ := w.1.2.2.2 b kb i (by rw [lb]; exact hi)
    refine ⟨c, f1, (q.2.1 b 19 i kb (fun h => by cases h.1) (fun h => by cases h.1)).trans f1, (fun h => by subst h; cases f2.2.symm.trans k.2), f2, (q.1 c 13 f2).1, (q.1 c 13 f2).2, q.2.2.2 b 19 i c kb f1 (by rw [f2.2]; rfl) (by simp [jsr]) (hW _ ?_)⟩
    rcases (show i = 0 ∨ i = 1 by omega) with rfl | rfl <;> decide
theorem A0.symm {v0 : Nat} {Z ZJ : jZ} {I J : jI} {L M : jL} (h : A0 False v0 Z I L ZJ J M) : A0 False v0 ZJ J M Z I L := by
  refine ⟨fun e => e.elim, fun j hj => ?_, ?_⟩
  · obtain ⟨b, g1, g2, g3, g4⟩ := h.2.1 j hj
    exact ⟨b, g2, g1, g3, g4.symm⟩
  · obtain ⟨b, g1, g2, g3, g4⟩ := h.2.2
    refine ⟨b, g2, g1, g3, fun k hk => ?_⟩
    obtain ⟨c, f1, f2, f3, f4, f5, f6, f7⟩ := g4 k hk
    exact ⟨c, f2, f1, f3, f5, f4, f6.symm, f7.symm⟩
theorem A0.trans {v0 : Nat} {Z ZJ ZK : jZ} {I J K : jI} {L M N : jL} (h : A0 False v0 Z I L ZJ J M) (h' : A0 False v0 ZJ J M ZK K N) : A0 False v0 Z I L ZK K N := by
  refine ⟨fun e => e.elim, fun j hj => ?_, ?_⟩
  · obtain ⟨b, g1, g2, g3, g4⟩ := h.2.1 j hj
    obtain ⟨b', g1', g2', g3', g4'⟩ := h'.2.1 j hj
    cases g2.symm.trans g1'
    exact ⟨b, g1, g2', g3, g4'.trans g4⟩
  · obtain ⟨b, g1, g2, g3, g4⟩ := h.2.2
    obtain ⟨b', g1', g2', g3', g4'⟩ := h'.2.2
    cases g2.symm.trans g1'
    refine ⟨b, g1, g2', g3, fun k hk => ?_⟩
    obtain ⟨c, f1, f2, f3, f4, f5, f6, f7⟩ := g4 k hk
    obtain ⟨c', f1', f2', f3', f4', f5', f6', f7'⟩ := g4' k hk
    cases f2.symm.trans f1'
    exact ⟨c, f1, f2', f3, f4, f5', f6'.trans f6, f7'.trans f7⟩
theorem A0.anyL {v0 : Nat} {Z ZJ : jZ} {I J : jI} {L M L' M' : jL} (h : A0 False v0 Z I L ZJ J M) : A0 False v0 Z I L' ZJ J M' := ⟨fun e => e.elim, h.2⟩
def jL0 : jL := fun _ _ => 0
/-- the price c of a move -/
def CV0 (B : Nat × Nat) (v0 : Nat) (Z : jZ) (I : jI) (p fr to c : Int32) : Prop := ∃ (ZJ : jZ) (J : jI) (M : jL), A0 False v0 Z I jL0 ZJ J M ∧ ∃ (Z1 : jZ) (I1 : jI) (L1 : jL), ∀ Q, f_X12_costOf B v0 p fr to ZJ J M Q ↔ Q c Z1 I1 L1
def EV0 (v0 : Nat) (Z : jZ) (I : jI) (p fr to c : Int32) : Prop := ∃ (ZJ : jZ) (J : jI) (M : jL), A0 False v0 Z I jL0 ZJ J M ∧ ∀ Q, f_X12_effortOf v0 p fr to ZJ J M Q ↔ Q c J M
def MN0 (v0 : Nat) (Z : jZ) (I : jI) (s c : Int32) : Prop := ∃ (ZJ : jZ) (J : jI) (M : jL), A0 False v0 Z I jL0 ZJ J M ∧ ∀ Q, f_X12_mainOf v0 s ZJ J M Q ↔ Q c J M
theorem CV0.uniq {B : Nat × Nat} {v0 : Nat} {Z : jZ} {I : jI} {p fr to c c' : Int32} (h : CV0 B v0 Z I p fr to c) (h' : CV0 B v0 Z I p fr to c') : c = c' := by
  obtain ⟨ZJ, J, M, a, Z1, I1, L1, g⟩ := h
  obtain ⟨ZK, K, N, a', Z2, I2, L2, g'⟩ := h'
  obtain ⟨K1, ⟨r, _, _, _, Z3, I3, L3, e1, -, rfl⟩, e2⟩ := t_X12_costOf (A := fun r _ _ _ => r = c) (a.symm.trans a') ((g _).mpr rfl)
  have := (e2 (fun r _ _ _ => r = c')).mp ((g' _).mpr rfl)
  exact e1.symm.trans this
theorem EV0.uniq {v0 : Nat} {Z : jZ} {I : jI} {p fr to c c' : Int32} (h : EV0 v0 Z I p fr to c) (h' : EV0 v0 Z I p fr to c') : c = c' := by
  obtain ⟨ZJ, J, M, a, g⟩ := h
  obtain ⟨ZK, K, N, a', g'⟩ := h'
  obtain ⟨K1, ⟨r, e1, rfl⟩, e2⟩ := t_X12_effortOf (A := fun r _ _ => r = c) (a.symm.trans a') ((g _).mpr rfl)
  have := (e2 (fun r _ _ => r = c')).mp ((g' _).mpr rfl)
  exact e1.symm.trans this
theorem MN0.uniq {v0 : Nat} {Z : jZ} {I : jI} {s c c' : Int32} (h : MN0 v0 Z I s c) (h' : MN0 v0 Z I s c') : c = c' := by
  obtain ⟨ZJ, J, M, a, g⟩ := h
  obtain ⟨ZK, K, N, a', g'⟩ := h'
  obtain ⟨K1, ⟨r, e1, rfl⟩, e2⟩ := t_X12_mainOf (A := fun r _ _ => r = c) (a.symm.trans a') ((g _).mpr rfl)
  have := (e2 (fun r _ _ => r = c')).mp ((g' _).mpr rfl)
  exact e1.symm.trans this
theorem CV0.cls {B : Nat × Nat} {v0 : Nat} {Z Z' : jZ} {I I' : jI} {L L' : jL} {p fr to c : Int32} (a : A0 False v0 Z I L Z' I' L') (h : CV0 B v0 Z' I' p fr to c) : CV0 B v0 Z I p fr to c := by
  obtain ⟨ZJ, J, M, a2, g⟩ := h
  exact ⟨ZJ, J, M, (a.anyL).trans a2, g⟩
theorem EV0.cls {v0 : Nat} {Z Z' : jZ} {I I' : jI} {L L' : jL} {p fr to c : Int32} (a : A0 False v0 Z I L Z' I' L') (h : EV0 v0 Z' I' p fr to c) : EV0 v0 Z I p fr to c := by
  obtain ⟨ZJ, J, M, a2, g⟩ := h
  exact ⟨ZJ, J, M, (a.anyL).trans a2, g⟩
theorem MN0.cls {v0 : Nat} {Z Z' : jZ} {I I' : jI} {L L' : jL} {s c : Int32} (a : A0 False v0 Z I L Z' I' L') (h : MN0 v0 Z' I' s c) : MN0 v0 Z I s c := by
  obtain ⟨ZJ, J, M, a2, g⟩ := h
  exact ⟨ZJ, J, M, (a.anyL).trans a2, g⟩
theorem A0W_none : ∀ p ∈ A0W, p ∉ ([] : List (Nat × Nat)) := by decide
theorem s9_X12_costOf {B : Nat × Nat} {T : Nat} {Z : jZ} {I : jI} {L : jL} (w_I : WD Z I) (bd_Z : BUD B Z T) (v0 : Nat) (v1 : Int32) (v2 : Int32) (v3 : Int32) (kv0 : jk Z v0 12) (p0 : 0 ≤ v1.toInt ∧ v1.toInt ≤ 5 ∧ -1 ≤ v2.toInt ∧ v2.toInt < v3.toInt ∧ v3.toInt ≤ 23 ∧ v3.toInt - v2.toInt ≤ 3) {Q : Int32 → jZ → jI → jL → Prop}
    (hQ : ∀ (r : Int32) (Z' : jZ) (I' : jI) (L' : jL), WD Z' I' → BUD B Z' T → FR Ws_X12_costOf Z I Z' I' → CP Z Z' → ((0 ≤ r.toInt ∧ r.toInt ≤ 297) ∧ CV0 B v0 Z I v1 v2 v3 r) → Q r Z' I' L') : f_X12_costOf B v0 v1 v2 v3 Z I L Q := by
  have h := s_X12_costOf (L := L) w_I bd_Z v0 v1 v2 v3 kv0 p0 (Q := fun r Z' I' L' => WD Z' I' ∧ BUD B Z' T ∧ FR Ws_X12_costOf Z I Z' I' ∧ CP Z Z' ∧ (0 ≤ r.toInt ∧ r.toInt ≤ 297)) (fun r Z' I' L' a b c d e => ⟨a, b, c, d, e⟩)
  have ag : A0 True v0 Z I L Z I L := A0_FR w_I kv0 (FR.rf (W := [])) A0W_none (fun _ => ⟨rfl, rfl, rfl⟩)
  obtain ⟨K, ⟨r, Z1, I1, L1, Z2, I2, L2, ⟨a, b, c, d, e⟩, g, rfl⟩, hK⟩ := t_X12_costOf ag h
  obtain ⟨rfl, rfl, rfl⟩ := g.1 trivial
  exact (hK Q).mpr (hQ r _ _ _ a b c d ⟨e, Z, I, L, ⟨fun e => e.elim, ag.2⟩, _, _, _, hK⟩)
theorem s9_X12_effortOf {Z : jZ} {I : jI} {L : jL} (w_I : WD Z I) (v0 : Nat) (v1 : Int32) (v2 : Int32) (v3 : Int32) (kv0 : jk Z v0 12) (p0 : 0 ≤ v1.toInt ∧ v1.toInt ≤ 5 ∧ -1 ≤ v2.toInt ∧ v2.toInt < v3.toInt ∧ v3.toInt ≤ 23 ∧ v3.toInt - v2.toInt ≤ 3) {Q : Int32 → jI → jL → Prop} (hQ : ∀ (r : Int32), ((0 ≤ r.toInt ∧ r.toInt ≤ 999) ∧ EV0 v0 Z I v1 v2 v3 r) → Q r I L) : f_X12_effortOf v0 v1 v2 v3 Z I L Q := by
  have h := s_X12_effortOf (L := L) w_I v0 v1 v2 v3 kv0 p0 (Q := fun r _ _ => 0 ≤ r.toInt ∧ r.toInt ≤ 999) (fun r a => a)
  have ag : A0 True v0 Z I L Z I L := A0_FR w_I kv0 (FR.rf (W := [])) A0W_none (fun _ => ⟨rfl, rfl, rfl⟩)
  obtain ⟨K, ⟨r, a, rfl⟩, hK⟩ := t_X12_effortOf ag h
  exact (hK Q).mpr (hQ r ⟨a, Z, I, L, ⟨fun e => e.elim, ag.2⟩, hK⟩)
theorem s9_X12_mainOf {Z : jZ} {I : jI} {L : jL} (w_I : WD Z I) (v0 : Nat) (v1 : Int32) (kv0 : jk Z v0 12) (p0 : 0 ≤ v1.toInt ∧ v1.toInt ≤ 23) {Q : Int32 → jI → jL → Prop} (hQ : ∀ (r : Int32), ((0 ≤ r.toInt ∧ r.toInt ≤ 7) ∧ MN0 v0 Z I v1 r) → Q r I L) : f_X12_mainOf v0 v1 Z I L Q := by
  have h := s_X12_mainOf (L := L) w_I v0 v1 kv0 p0 (Q := fun r _ _ => 0 ≤ r.toInt ∧ r.toInt ≤ 7) (fun r a => a)
  have ag : A0 True v0 Z I L Z I L := A0_FR w_I kv0 (FR.rf (W := [])) A0W_none (fun _ => ⟨rfl, rfl, rfl⟩)
  obtain ⟨K, ⟨r, a, rfl⟩, hK⟩ := t_X12_mainOf ag h
  exact (hK Q).mpr (hQ r ⟨a, Z, I, L, ⟨fun e => e.elim, ag.2⟩, hK⟩)
/-- the vow bars a family -/
def hvb (a m : Int32) : Prop := ((a >>> (m &&& 31)) &&& (1 : Int32)) = (1 : Int32)
theorem s9_X12_has {Z : jZ} {I : jI} {L : jL} (w_I : WD Z I) (v0 : Int32) (v1 : Int32) {Q : Int32 → jI → jL → Prop} (hQ : ∀ (r : Int32), ((r.toInt = 1 ∧ hvb v0 v1) ∨ (r.toInt = 0 ∧ ¬ hvb v0 v1)) → Q r I L) : f_X12_has v0 v1 Z I L Q :=
  ⟨fun c => hQ 0 (Or.inr ⟨rfl, c⟩), fun c => hQ 1 (Or.inl ⟨rfl, c⟩)⟩
/-- what stands in a place of the moves -/
def MV1 (B : Nat × Nat) (v0 : Nat) (Z : jZ) (I : jI) (st sh : Int) (lp vw p : Int32) (k : Nat) (c e : Int32) : Prop :=
  ((lp.toInt < ((k % 3 : Nat) : Int) + 1 ∨ st ≤ ((k / 3 : Nat) : Int) + ((k % 3 : Nat) : Int) ∨ ((k / 3 : Nat) : Int) + ((k % 3 : Nat) : Int) = sh) ∧ c.toInt = 1000000000)
  ∨ (¬ (lp.toInt < ((k % 3 : Nat) : Int) + 1 ∨ st ≤ ((k / 3 : Nat) : Int) + ((k % 3 : Nat) : Int) ∨ ((k / 3 : Nat) : Int) + ((k % 3 : Nat) : Int) = sh) ∧ ∃ fr to m : Int32, fr.toInt = ((k / 3 : Nat) : Int) - 1 ∧ to.toInt = ((k / 3 : Nat) : Int) + ((k % 3 : Nat) : Int) ∧ MN0 v0 Z I to m ∧ ((hvb vw m ∧ c.toInt = 1000000000) ∨ (¬ hvb vw m ∧ CV0 B v0 Z I p fr to c ∧ EV0 v0 Z I p fr to e)))
theorem MV1.uniq {B : Nat × Nat} {v0 : Nat} {Z : jZ} {I : jI} {st sh : Int} {lp vw p : Int32} {k : Nat} {c e c' e' : Int32} (h : MV1 B v0 Z I st sh lp vw p k c e) (h' : MV1 B v0 Z I st sh lp vw p k c' e') : c = c' ∧ (¬ c.toInt = 1000000000 → e = e') := by
  have far : c.toInt = 1000000000 → c'.toInt = 1000000000 → c = c' := fun a b => (i_eq rfl rfl).mpr (a.trans b.symm)
  rcases h with ⟨h1, h2⟩ | ⟨h1, fr, to, m, h2, h3, h4, h5⟩
  · rcases h' with ⟨g1, g2⟩ | ⟨g1, -⟩
    · exact ⟨far h2 g2, fun n => absurd h2 n⟩
    · exact absurd h1 g1
  · rcases h' with ⟨g1, -⟩ | ⟨-, fr', to', m', g2, g3, g4, g5⟩
    · exact absurd g1 h1
    · obtain rfl : fr = fr' := (i_eq rfl rfl).mpr (h2.trans g2.symm)
      obtain rfl : to = to' := (i_eq rfl rfl).mpr (h3.trans g3.symm)
      obtain rfl := h4.uniq g4
      rcases h5 with ⟨a1, a2⟩ | ⟨a1, a2, a3⟩
      · rcases g5 with ⟨b1, b2⟩ | ⟨b1, -, -⟩
        · exact ⟨far a2 b2, fun n => absurd a2 n⟩
        · exact absurd a1 b1
      · rcases g5 with ⟨b1, -⟩ | ⟨-, b2, b3⟩
        · exact absurd b1 a1
        · exact ⟨a2.uniq b2, fun _ => a3.uniq b3⟩
theorem MV1.cls {B : Nat × Nat} {v0 : Nat} {Z Z' : jZ} {I I' : jI} {L L' : jL} {st sh : Int} {lp vw p : Int32} {k : Nat} {c e : Int32} (a : A0 False v0 Z I L Z' I' L') (h : MV1 B v0 Z' I' st sh lp vw p k c e) : MV1 B v0 Z I st sh lp vw p k c e := by
  rcases h with h | ⟨h1, fr, to, m, h2, h3, h4, h5⟩
  · exact Or.inl h
  · exact Or.inr ⟨h1, fr, to, m, h2, h3, MN0.cls a h4, h5.imp id (fun ⟨b1, b2, b3⟩ => ⟨b1, CV0.cls a b2, EV0.cls a b3⟩)⟩
def LMV (B : Nat × Nat) (v0 : Nat) (Z : jZ) (I : jI) (st sh : Int) (lp vw p : Int32) (K : Int) (C E : Nat → Int32) : Prop := ∀ k : Nat, (k : Int) < K → MV1 B v0 Z I st sh lp vw p k (C k) (E k)
theorem LMV.zero {B : Nat × Nat} {v0 : Nat} {Z : jZ} {I : jI} {st sh : Int} {lp vw p : Int32} {K : Int} {C E : Nat → Int32} (h : K ≤ 0) : LMV B v0 Z I st sh lp vw p K C E := fun k hk => by omega
theorem LMV.step {B : Nat × Nat} {v0 : Nat} {Z : jZ} {I : jI} {st sh : Int} {lp vw p : Int32} {K K' : Int} {C E C' E' : Nat → Int32} (h : LMV B v0 Z I st sh lp vw p K C E) (P : Nat) (hP : (P : Int) = K) (hC : ∀ q, q ≠ P → C' q = C q) (hE : ∀ q, q ≠ P → E' q = E q) (hv : MV1 B v0 Z I st sh lp vw p P (C' P) (E' P)) (hK : K' = K + 1) : LMV B v0 Z I st sh lp vw p K' C' E' := by
  intro k hk
  by_cases e : k = P
  · subst e; exact hv
  · rw [hC k e, hE k e]; exact h k (by omega)
