/-! ===== how many can climb: a function of what is told ===== -/
theorem jpI_ow {I : jI} {a i : Nat} {x y : Int32} : jpI (jpI I a i x) a i y = jpI I a i y := by
  funext b q
  by_cases hb : b = a
  · subst hb
    by_cases hq : q = i
    · subst hq; rw [jpI_at, jpI_at]
    · rw [jpI_off hq, jpI_off hq, jpI_off hq]
  · rw [jpI_ne hb, jpI_ne hb, jpI_ne hb]
theorem jpI_id {I : jI} {a i : Nat} {x : Int32} (h : I a i = x) : jpI I a i x = I := by
  funext b q
  by_cases hb : b = a
  · subst hb
    by_cases hq : q = i
    · subst hq; rw [jpI_at, h]
    · rw [jpI_off hq]
  · rw [jpI_ne hb]
theorem jpI_cong {I J : jI} {a b i : Nat} {x : Int32} (ha : J a = I a) (hb : J b = I b) : jpI J a i x b = jpI I a i x b := by
  funext q
  by_cases e : b = a
  · subst e
    by_cases hq : q = i
    · subst hq; rw [jpI_at, jpI_at]
    · rw [jpI_off hq, jpI_off hq, ha]
  · rw [jpI_ne e, jpI_ne e, hb]
/-- whether pilgrim p has a climb -/
def FCi (B : Nat × Nat) (v0 : Nat) (Z : jZ) (I : jI) (p : Int32) : Prop := ∃ uK uQ uL uV : Nat, jr Z v0 9 = some uK ∧ jr Z v0 10 = some uQ ∧ jr Z v0 11 = some uL ∧ jr Z v0 13 = some uV ∧
  FCv B v0 Z I (I v0 0).toInt (I v0 39).toInt (I uL p.toNatClampNeg) (I uV p.toNatClampNeg) p (I uK p.toNatClampNeg).toInt (I uQ p.toNatClampNeg).toInt
theorem FCi.iff {B : Nat × Nat} {v0 : Nat} {Z : jZ} {I : jI} {p : Int32} {uK uQ uL uV : Nat} (hK : jr Z v0 9 = some uK) (hQ : jr Z v0 10 = some uQ) (hL : jr Z v0 11 = some uL) (hV : jr Z v0 13 = some uV) :
    FCi B v0 Z I p ↔ FCv B v0 Z I (I v0 0).toInt (I v0 39).toInt (I uL p.toNatClampNeg) (I uV p.toNatClampNeg) p (I uK p.toNatClampNeg).toInt (I uQ p.toNatClampNeg).toInt := by
  refine ⟨fun ⟨a, b, c, d, e1, e2, e3, e4, h⟩ => ?_, fun h => ⟨uK, uQ, uL, uV, hK, hQ, hL, hV, h⟩⟩
  cases hK.symm.trans e1; cases hQ.symm.trans e2; cases hL.symm.trans e3; cases hV.symm.trans e4
  exact h
def SAME (v0 : Nat) (Z : jZ) (I : jI) (ZJ : jZ) (J : jI) : Prop := A0 False v0 Z I jL0 ZJ J jL0 ∧ (∀ j, j ∈ ([0, 8, 39] : List Nat) → J v0 j = I v0 j) ∧ (∀ j, j ∈ ([9, 10] : List Nat) → ∃ b, jr Z v0 j = some b ∧ jr ZJ v0 j = some b ∧ b ≠ v0 ∧ J b = I b)
def SMW : List (Nat × Nat) := [(12, 0), (12, 8), (12, 39), (12, 9), (12, 10)] ++ A0W
theorem SAME_FR {W : List (Nat × Nat)} {v0 : Nat} {Z Z' : jZ} {I I' : jI} (w : WD Z I) (k : jk Z v0 12) (q : FR W Z I Z' I') (hW : ∀ p ∈ SMW, p ∉ W) : SAME v0 Z I Z' I' := by
  refine ⟨A0_FR w k q (fun p hp => hW p (List.mem_append_right _ hp)) (fun e => e.elim), fun j hj => ?_, fun j hj => ?_⟩
  · simp only [List.mem_cons, List.not_mem_nil, or_false] at hj
    rcases hj with rfl | rfl | rfl
    · exact q.2.2.1 v0 12 0 k (by decide) (hW _ (by decide))
    · exact q.2.2.1 v0 12 8 k (by decide) (hW _ (by decide))
    · exact q.2.2.1 v0 12 39 k (by decide) (hW _ (by decide))
  · simp only [List.mem_cons, List.not_mem_nil, or_false] at hj
    rcases hj with rfl | rfl
    · obtain ⟨b, e, kb, -⟩ := sh_f w.1 k (j := 9) (k := 14) (m := 6) rfl
      exact ⟨b, e, (q.2.1 v0 12 9 k (by decide) (by decide)).trans e, (fun h => by subst h; cases kb.2.symm.trans k.2), q.2.2.2 v0 12 9 b k e (by rw [kb.2]; rfl) rfl (hW _ (by decide))⟩
    · obtain ⟨b, e, kb, -⟩ := sh_f w.1 k (j := 10) (k := 14) (m := 6) rfl
      exact ⟨b, e, (q.2.1 v0 12 10 k (by decide) (by decide)).trans e, (fun h => by subst h; cases kb.2.symm.trans k.2), q.2.2.2 v0 12 10 b k e (by rw [kb.2]; rfl) rfl (hW _ (by decide))⟩
theorem SAME.put {v0 a : Nat} {Z ZJ : jZ} {I J : jI} (s : SAME v0 Z I ZJ J) (ha : jr Z v0 3 = some a) (i : Nat) (x : Int32) : SAME v0 Z (jpI I a i x) ZJ (jpI J a i x) := by
  have h3 := s.1.arr 3 (by decide) ha
  have n3 : v0 ≠ a := by
    obtain ⟨b, g1, _, g3, _⟩ := s.1.2.1 3 (by decide)
    cases ha.symm.trans g1
    exact fun q => g3 q.symm
  refine ⟨⟨fun e => e.elim, fun j hj => ?_, ?_⟩, fun j hj => by rw [jpI_ne n3, jpI_ne n3]; exact s.2.1 j hj, fun j hj => ?_⟩
  · obtain ⟨b, g1, g2, g3, g4⟩ := s.1.2.1 j hj
    exact ⟨b, g1, g2, g3, jpI_cong h3 g4⟩
  · obtain ⟨b, g1, g2, g3, g4⟩ := s.1.2.2
    refine ⟨b, g1, g2, g3, fun k hk => ?_⟩
    obtain ⟨c, f1, f2, f3, f4, f5, f6, f7⟩ := g4 k hk
    exact ⟨c, f1, f2, f3, f4, f5, f6, jpI_cong h3 f7⟩
  · obtain ⟨b, g1, g2, g3, g4⟩ := s.2.2 j hj
    exact ⟨b, g1, g2, g3, jpI_cong h3 g4⟩
theorem FCi.same {B : Nat × Nat} {v0 : Nat} {Z ZJ : jZ} {I J : jI} {p : Int32} (s : SAME v0 Z I ZJ J) : FCi B v0 Z I p ↔ FCi B v0 ZJ J p := by
  obtain ⟨uK, k1, k2, _, k4⟩ := s.2.2 9 (by decide)
  obtain ⟨uQ, q1, q2, _, q4⟩ := s.2.2 10 (by decide)
  obtain ⟨uL, l1, l2, _, l4⟩ := s.1.2.1 11 (by decide)
  obtain ⟨uV, v1, v2, _, v4⟩ := s.1.2.1 13 (by decide)
  rw [FCi.iff k1 q1 l1 v1, FCi.iff k2 q2 l2 v2, s.2.1 0 (by decide), s.2.1 39 (by decide), k4, q4, l4, v4]
  exact ⟨fun h => FCv.cls s.1.symm h, fun h => FCv.cls s.1 h⟩
noncomputable def CFN (F : Int32 → Prop) : Nat → Int
  | 0 => 0
  | n + 1 => CFN F n + @ite Int (F (nI n)) (Classical.propDecidable _) 1 0
theorem CFN_step {F : Int32 → Prop} {v : Int32} (h0 : 0 ≤ v.toInt) (h6 : v.toInt ≤ 6) : (F v → CFN F (v.toNatClampNeg + 1) = CFN F v.toNatClampNeg + 1) ∧ (¬ F v → CFN F (v.toNatClampNeg + 1) = CFN F v.toNatClampNeg) := by
  have hn := i_nat (x := v) rfl h0
  have e : nI v.toNatClampNeg = v := (i_eq (i_nI (n := v.toNatClampNeg) (by omega)) rfl).mpr hn
  constructor
  · intro h
    show CFN F v.toNatClampNeg + @ite Int (F (nI v.toNatClampNeg)) (Classical.propDecidable _) 1 0 = _
    rw [e, if_pos h]
  · intro h
    show CFN F v.toNatClampNeg + @ite Int (F (nI v.toNatClampNeg)) (Classical.propDecidable _) 1 0 = _
    rw [e, if_neg h]
    omega
theorem CFN_congr {F G : Int32 → Prop} (h : ∀ p, F p ↔ G p) : CFN F = CFN G := by
  have : F = G := funext fun p => propext (h p)
  rw [this]
noncomputable def NUM (B : Nat × Nat) (v0 : Nat) (Z : jZ) (I : jI) : Int := if 1 ≤ (I v0 0).toInt then CFN (FCi B v0 Z I) (I v0 8).toInt.toNat else 0
theorem NUM_same {B : Nat × Nat} {v0 : Nat} {Z ZJ : jZ} {I J : jI} (s : SAME v0 Z I ZJ J) : NUM B v0 Z I = NUM B v0 ZJ J := by
  unfold NUM
  rw [s.2.1 0 (by decide), s.2.1 8 (by decide), CFN_congr (fun p => FCi.same (B := B) (p := p) s)]
