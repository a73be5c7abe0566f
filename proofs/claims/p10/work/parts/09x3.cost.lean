theorem jrR_at {Z : jZ} {a j : Nat} {v : Option Nat} : jr (jpR Z a j v) a j = v := by
  show va_up Z.2.2.2 a (va_up (Z.2.2.2 a) j v) a j = v
  rw [va_up_self, va_up_self]
theorem jrR_off {Z : jZ} {a j i : Nat} {v : Option Nat} (h : i ≠ j) : jr (jpR Z a j v) a i = jr Z a i := by
  show va_up Z.2.2.2 a (va_up (Z.2.2.2 a) j v) a i = Z.2.2.2 a i
  rw [va_up_self, va_up_ne _ _ h]
theorem jrR_ne {Z : jZ} {a j b i : Nat} {v : Option Nat} (h : b ≠ a) : jr (jpR Z a j v) b i = jr Z b i := by
  show va_up Z.2.2.2 a (va_up (Z.2.2.2 a) j v) b i = Z.2.2.2 b i
  rw [va_up_ne _ _ h]
theorem A0.begin {E : Prop} {v0 c : Nat} {Z : jZ} {I : jI} {L : jL} {ZJ : jZ} {J : jI} {M : jL} (ag : A0 E v0 Z I L ZJ J M) (hc : c ≠ v0 ∧ jk Z c 13 ∧ jk ZJ c 13 ∧ jlen ZJ c = jlen Z c ∧ J c = I c) :
    A0 E v0 (jpR Z v0 23 (some c)) I L (jpR ZJ v0 23 (some c)) J M ∧ RDn v0 (jpR Z v0 23 (some c)) I (jpR ZJ v0 23 (some c)) J := by
  refine ⟨⟨fun e => ⟨by rw [(ag.1 e).1], (ag.1 e).2⟩, fun j hj => ?_, ?_⟩, c, jrR_at, jrR_at, hc.1, hc.2.1, hc.2.2.1, hc.2.2.2.1, hc.2.2.2.2⟩
  · obtain ⟨b, g1, g2, g3, g4⟩ := ag.2.1 j hj
    have h23 : j ≠ 23 := fun e => by subst e; revert hj; decide
    exact ⟨b, (jrR_off h23).trans g1, (jrR_off h23).trans g2, g3, g4⟩
  · obtain ⟨b, g1, g2, g3, g4⟩ := ag.2.2
    refine ⟨b, (jrR_off (by decide)).trans g1, (jrR_off (by decide)).trans g2, g3, fun k hk => ?_⟩
    obtain ⟨c2, f1, f2, f3, f4, f5, f6, f7⟩ := g4 k hk
    exact ⟨c2, (jrR_ne g3).trans f1, (jrR_ne g3).trans f2, f3, f4, f5, f6, f7⟩
theorem FLD_mem : ∀ j ∈ ([24, 25, 26, 27, 31, 32, 33, 34] : List Nat), j ∈ ([34, 33, 32, 31, 27, 26, 25, 24] : List Nat) := by decide
set_option maxHeartbeats 4000000 in
theorem t_X12_lawOf {B : Nat × Nat} {E : Prop} {v0 : Nat} {v1 v2 v3 v4 v5 : Int32} {Z : jZ} {I : jI} {L : jL} {ZJ : jZ} {J : jI} {M : jL} {A : Int32 → jZ → jI → jL → Prop} (ag : A0 E v0 Z I L ZJ J M) (h : f_X12_lawOf B v0 v1 v2 v3 v4 v5 Z I L A) : GO (OKZ (fun Z I L ZJ J M => A0 E v0 Z I L ZJ J M) A) (fun Q => f_X12_lawOf B v0 v1 v2 v3 v4 v5 ZJ J M Q) := by
  unfold f_X12_lawOf at h ⊢
  obtain ⟨b1, e1, f1, n1, a1⟩ := ag.2.1 30 (by decide)
  refine GO.ref e1 f1 h (fun h => ?_)
  rw [a1]
  refine GO.ob h (fun o h => ?_)
  refine GO.itn h (fun c h => ?_) (fun c h => ?_)
  · obtain ⟨b4, e4, f4, n4, a4⟩ := ag.2.2
    refine GO.ref e4 f4 h (fun h => ?_)
    refine GO.ob h (fun o2 h => ?_)
    obtain ⟨c6, e6, f6, n6, k6, j6, l6, a6⟩ := a4 v1.toNatClampNeg (vp_lt o2)
    refine GO.ref e6 f6 h (fun h => ?_)
    refine GO.ref e1 f1 h (fun h => ?_)
    try rw [a1]
    refine GO.ob h (fun o3 h => ?_)
    unfold f_X12_begin at h ⊢
    refine GO.eq h (fun h => ?_)
    refine GO.eq h (fun h => ?_)
    refine GO.eq h (fun h => ?_)
    refine GO.eq h (fun h => ?_)
    refine GO.eq h (fun h => ?_)
    refine GO.eq h (fun h => ?_)
    refine GO.eq h (fun h => ?_)
    refine GO.eq h (fun h => ?_)
    refine GO.eq h (fun h => ?_)
    obtain ⟨g1, g2⟩ := ag.begin ⟨n6, k6, j6, l6, a6⟩
    have g3 := (((((((g1.put 24 (I b1 v1.toNatClampNeg)).put 25 40).put 26 0).put 27 (-1)).put 31 v2).put 32 v3).put 33 v4).put 34 v5
    have af0 : AF [] v0 I J := fun j hj => absurd hj (by simp)
    have g4 := (((((((af0.put 24 (I b1 v1.toNatClampNeg)).put 25 40).put 26 0).put 27 (-1)).put 31 v2).put 32 v3).put 33 v4).put 34 v5
    obtain ⟨b9, q1, q2, q3, q4, q5, q6, q7⟩ := g2
    have ag1 : A1 E v0 _ _ L _ _ M := ⟨g3, ⟨b9, q1, q2, q3, q4, q5, q6, by rw [jpI_ne q3, jpI_ne q3, jpI_ne q3, jpI_ne q3, jpI_ne q3, jpI_ne q3, jpI_ne q3, jpI_ne q3, jpI_ne q3, jpI_ne q3, jpI_ne q3, jpI_ne q3, jpI_ne q3, jpI_ne q3, jpI_ne q3, jpI_ne q3]; exact q7⟩, fun j hj => g4 j (FLD_mem j hj)⟩
    refine GO.callI (ht 100 0 (by decide) ag1 h) (fun r I1 L1 J1 M1 ag2 h => ?_)
    exact GO.leafZ ag2.1 h
  · refine GO.ite h (fun c h => ?_) (fun c h => ?_)
    · unfold f_X12_lawOf_b23 at h ⊢
      exact GO.leafZ ag h
    · obtain ⟨b8, e8, f8, n8, a8⟩ := ag.2.1 4 (by decide)
      refine GO.ref e8 f8 h (fun h => ?_)
      rw [a8]
      refine GO.ob h (fun o2 h => ?_)
      refine GO.ite h (fun c h => ?_) (fun c h => ?_)
      · obtain ⟨b7, e7, f7, n7, a7⟩ := ag.2.1 3 (by decide)
        refine GO.ref e7 f7 h (fun h => ?_)
        rw [a7]
        refine GO.ob h (fun o2 h => ?_)
        exact GO.leafZ ag h
      · unfold f_X12_lawOf_b23 at h ⊢
        exact GO.leafZ ag h
set_option maxHeartbeats 4000000 in
set_option maxRecDepth 100000 in
theorem tl_X12_costOf_L29 {B : Nat × Nat} {E : Prop} {v0 : Nat} {A : Int32 → jZ → jI → jL → Prop} : ∀ (n : Nat) {v1 : Int32} {v2 : Int32} {v3 : Int32} {v4 : Int32} {v5 : Int32} {v6 : Int32} {Z : jZ} {I : jI} {L : jL} {ZJ : jZ} {J : jI} {M : jL}, A0 E v0 Z I L ZJ J M → f_X12_costOf_L29 B A n v0 v1 v2 v3 v4 v5 v6 Z I L → GO (OKZ (fun Z I L ZJ J M => A0 E v0 Z I L ZJ J M) A) (fun Q => ∃ m, f_X12_costOf_L29 B Q m v0 v1 v2 v3 v4 v5 v6 ZJ J M) := by
  intro n
  induction n with
  | zero => intro v1 v2 v3 v4 v5 v6 Z I L ZJ J M ag h; exact h.elim
  | succ n ih =>
    intro v1 v2 v3 v4 v5 v6 Z I L ZJ J M ag h
    refine GO.loop (Bm := fun m Q => f_X12_costOf_L29 B Q m v0 v1 v2 v3 v4 v5 v6 ZJ J M) (fun _ h => h) ?_
    show GO _ (fun q : (Int32 → jZ → jI → jL → Prop) × Nat => f_X12_costOf_L29 B q.1 (q.2 + 1) v0 v1 v2 v3 v4 v5 v6 ZJ J M)
    unfold f_X12_costOf_L29 at h ⊢
    refine GO.ite h (fun c h => ?_) (fun c h => ?_)
    · skip
      exact GO.leafB (B := fun (Q : Int32 → jZ → jI → jL → Prop) => Q _ _ _ _) (GO.leafZ ag h)
    · skip
      obtain ⟨b1, eb1, fb1, nb1, ab1⟩ := ag.2.1 12 (by decide)
      refine GO.ref eb1 fb1 h (fun h => ?_)
      try rw [ab1]
      refine GO.ob h (fun o h => ?_)
      refine GO.callZ (t_X12_lawOf ag h) (fun r Z I L ZJ J M ag h => ?_)
      refine GO.eq h (fun h => ?_)
      refine GO.eq h (fun h => ?_)
      have g9 := GO.back (ih ag h)
      exact g9
set_option maxHeartbeats 4000000 in
set_option maxRecDepth 100000 in
theorem t_X12_costOf {B : Nat × Nat} {E : Prop} {v0 : Nat} {v1 : Int32} {v2 : Int32} {v3 : Int32} {Z : jZ} {I : jI} {L : jL} {ZJ : jZ} {J : jI} {M : jL} {A : Int32 → jZ → jI → jL → Prop} (ag : A0 E v0 Z I L ZJ J M) (h : f_X12_costOf B v0 v1 v2 v3 Z I L A) : GO (OKZ (fun Z I L ZJ J M => A0 E v0 Z I L ZJ J M) A) (fun Q => f_X12_costOf B v0 v1 v2 v3 ZJ J M Q) := by
  unfold f_X12_costOf at h ⊢
  refine GO.eq h (fun h => ?_)
  obtain ⟨b2, eb2, fb2, nb2, ab2⟩ := ag.2.1 12 (by decide)
  refine GO.ref eb2 fb2 h (fun h => ?_)
  try rw [ab2]
  refine GO.ob h (fun o h => ?_)
  refine GO.callZ (t_X12_lawOf ag h) (fun r Z I L ZJ J M ag h => ?_)
  refine GO.eq h (fun h => ?_)
  obtain ⟨n9, h⟩ := h
  exact tl_X12_costOf_L29 n9 ag h
