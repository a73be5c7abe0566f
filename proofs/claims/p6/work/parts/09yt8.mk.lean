/-! ===== what a STEP is paid by all PILGRIMS; a round of the market ===== -/
/-- what both sides have in common: LAWS; rise, state, widow; x; steps, pilgrims; leap, vow, mains; load, knees, purse -/
abbrev DAT : Type := (List Int × List Int) × ((Nat → Int32) × (Nat → Int32) × (Nat → Int32)) × (Int → Int → Int32) × (Nat × Nat) × ((Nat → Nat) × (Nat → Int32) × (Nat → Int32)) × ((Nat → Int) × (Nat → Int) × (Nat → Int))
def dC0 (D : DAT) : List Int := D.1.1
def dC1 (D : DAT) : List Int := D.1.2
def dR (D : DAT) : Nat → Int32 := D.2.1.1
def dS (D : DAT) : Nat → Int32 := D.2.1.2.1
def dW (D : DAT) : Nat → Int32 := D.2.1.2.2
def dX (D : DAT) : Int → Int → Int32 := D.2.2.1
def dN (D : DAT) : Nat := D.2.2.2.1.1
def dP (D : DAT) : Nat := D.2.2.2.1.2
def dLp (D : DAT) : Nat → Nat := D.2.2.2.2.1.1
def dVw (D : DAT) : Nat → Int32 := D.2.2.2.2.1.2.1
def dMn (D : DAT) : Nat → Int32 := D.2.2.2.2.1.2.2
def dLd (D : DAT) : Nat → Int := D.2.2.2.2.2.1
def dKn (D : DAT) : Nat → Int := D.2.2.2.2.2.2.1
def dPu (D : DAT) : Nat → Int := D.2.2.2.2.2.2.2
def Hn (r : Nat → Int32) (n : Nat) (s : Int) : Int := if 0 ≤ s ∧ s < (n : Int) then (r s.toNat).toInt else 0
theorem Hn_rng {r : Nat → Int32} {n : Nat} {m : Int} (hm : 0 ≤ m) (h : ∀ k, k < n → 0 ≤ (r k).toInt ∧ (r k).toInt ≤ m) (s : Int) : 0 ≤ Hn r n s ∧ Hn r n s ≤ m := by
  unfold Hn
  by_cases c : 0 ≤ s ∧ s < (n : Int)
  · rw [if_pos c]
    exact h s.toNat (by omega)
  · rw [if_neg c]
    omega
theorem Hn_at {r : Nat → Int32} {n k : Nat} (h : (k : Int) < (n : Int)) : Hn r n (k : Int) = (r k).toInt := by
  unfold Hn
  rw [if_pos ⟨by omega, h⟩, show ((k : Int)).toNat = k by omega]
def PRa (D : DAT) (a : Nat → Int32) : Int → Int → Int → Int → Int → Int := PRf (dC0 D) (dC1 D) a (dR D) (dS D) (dW D) (dX D)
def dOp (D : DAT) (p : Nat) : Nat → Prop := opF (dVw D p) (dMn D) (-1)
def dC (D : DAT) (a : Nat → Int32) (p : Nat) : Nat → Nat → Int := CCp (PRa D a) (dLd D p)
def dE (D : DAT) (p : Nat) : Nat → Nat → Int := EEp (Hn (dR D) (dN D)) (Hn (dS D) (dN D)) (dLd D p)
/-- what pilgrim p pays step s, and whether it climbs -/
def PYd (D : DAT) (a : Nat → Int32) (s p : Nat) (pay cl : Int) : Prop := PYo (dLp D p) (dN D) (dOp D p) (dC D a p) (dE D p) (dKn D p) (dPu D p) s (prS (PRa D a) (dLd D p) s) pay cl
def DOK (D : DAT) : Prop := dN D ≤ 24 ∧ dP D ≤ 6 ∧ (∀ k, k < dN D → 0 ≤ (dR D k).toInt ∧ (dR D k).toInt ≤ 30) ∧ (∀ k, k < dN D → 0 ≤ (dS D k).toInt ∧ (dS D k).toInt ≤ 9) ∧ ∀ p, p < dP D → dLp D p ≤ 3 ∧ (0 ≤ dLd D p ∧ dLd D p ≤ 50) ∧ (0 ≤ dKn D p ∧ dKn D p ≤ 120) ∧ 0 ≤ dPu D p ∧ dPu D p ≤ 999
def aOK (a : Nat → Int32) : Prop := ∀ k, 0 ≤ (a k).toInt ∧ (a k).toInt ≤ 20
theorem PRa_rng {D : DAT} {a : Nat → Int32} (ha : aOK a) : ∀ x b c d e, 0 ≤ PRa D a x b c d e ∧ PRa D a x b c d e ≤ 99 := PRf_rng ha
theorem dC_rng {D : DAT} {a : Nat → Int32} {p : Nat} (ha : aOK a) : ∀ q f, 0 ≤ dC D a p q f ∧ dC D a p q f ≤ 297 := CCp_rng (PRa_rng ha)
theorem dE_rng {D : DAT} {p : Nat} (h : DOK D) (hp : p < dP D) : ∀ q f, 0 ≤ dE D p q f ∧ dE D p q f ≤ 600 := EEp_rng (Hn_rng (by omega) h.2.2.1) (Hn_rng (by omega) h.2.2.2.1) (h.2.2.2.2 p hp).2.1
theorem PYd_fun {D : DAT} {a : Nat → Int32} {s p : Nat} {pay cl pay' cl' : Int} (h : DOK D) (hp : p < dP D) (ha : aOK a) (h1 : PYd D a s p pay cl) (h2 : PYd D a s p pay' cl') : pay = pay' ∧ cl = cl' := by
  have hk := (h.2.2.2.2 p hp).2.2.1
  rcases h1 with ⟨n1, e1, e2⟩ | ⟨m, c, e, b, fr, to, l1, p1, e1, e2⟩
  · rcases h2 with ⟨n2, d1, d2⟩ | ⟨m', c', e', b', fr', to', l2, p2, d1, d2⟩
    · exact ⟨by rw [e1, d1], by rw [e2, d2]⟩
    · exact absurd l2.1 (n1 _ _ _ _)
  · rcases h2 with ⟨n2, d1, d2⟩ | ⟨m', c', e', b', fr', to', l2, p2, d1, d2⟩
    · exact absurd l1.1 (n2 _ _ _ _)
    · obtain ⟨q1, -, -, q4⟩ := LST_one h.1 (dC_rng ha) (dE_rng h hp) (by omega) l1 l2
      rw [q4] at p1
      obtain ⟨f1, f2⟩ := PAS_one _ _ _ _ _ _ _ _ p1 p2
      exact ⟨by rw [e1, d1, f1, f2], by rw [e2, d2]⟩
theorem PYd_rng {D : DAT} {a : Nat → Int32} {s p : Nat} {pay cl : Int} (ha : aOK a) (h1 : PYd D a s p pay cl) : (0 ≤ pay ∧ pay ≤ 99) ∧ 0 ≤ cl ∧ cl ≤ 1 := by
  rcases h1 with ⟨n1, e1, e2⟩ | ⟨m, c, e, b, fr, to, l1, p1, e1, e2⟩
  · omega
  · have : 0 ≤ prS (PRa D a) (dLd D p) s fr to ∧ prS (PRa D a) (dLd D p) s fr to ≤ 99 := PRa_rng ha _ _ _ _ _
    omega
def smN (f : Nat → Int) : Nat → Int
  | 0 => 0
  | k + 1 => smN f k + f k
theorem smN_cong {f g : Nat → Int} : ∀ k, (∀ i, i < k → f i = g i) → smN f k = smN g k := by
  intro k
  induction k with
  | zero => intro _; rfl
  | succ k ih =>
    intro h
    show smN f k + f k = smN g k + g k
    rw [ih (fun i hi => h i (by omega)), h k (Nat.lt_succ_self _)]
theorem smN_rng {f : Nat → Int} {m : Int} : ∀ k, (∀ i, i < k → 0 ≤ f i ∧ f i ≤ m) → 0 ≤ smN f k ∧ smN f k ≤ m * (k : Int) := by
  intro k
  induction k with
  | zero => intro _; exact ⟨Int.le_refl _, by rw [show ((0 : Nat) : Int) = 0 from rfl, Int.mul_zero]; exact Int.le_refl _⟩
  | succ k ih =>
    intro h
    have a := ih (fun i hi => h i (by omega))
    have b := h k (Nat.lt_succ_self _)
    show 0 ≤ smN f k + f k ∧ smN f k + f k ≤ m * ((k + 1 : Nat) : Int)
    rw [show ((k + 1 : Nat) : Int) = (k : Int) + 1 from rfl, Int.mul_add, Int.mul_one]
    omega
/-- what all of them pay step s, and how many climb -/
def TOT (D : DAT) (a : Nat → Int32) (s : Nat) (tot cl : Int) : Prop := ∃ f g : Nat → Int, (∀ p, p < dP D → PYd D a s p (f p) (g p)) ∧ tot = smN f (dP D) ∧ cl = smN g (dP D)
theorem TOT_fun {D : DAT} {a : Nat → Int32} {s : Nat} {tot cl tot' cl' : Int} (h : DOK D) (ha : aOK a) (h1 : TOT D a s tot cl) (h2 : TOT D a s tot' cl') : tot = tot' ∧ cl = cl' := by
  obtain ⟨f, g, q, e1, e2⟩ := h1
  obtain ⟨f', g', q', d1, d2⟩ := h2
  exact ⟨by rw [e1, d1]; exact smN_cong _ (fun p hp => (PYd_fun h hp ha (q p hp) (q' p hp)).1), by rw [e2, d2]; exact smN_cong _ (fun p hp => (PYd_fun h hp ha (q p hp) (q' p hp)).2)⟩
theorem TOT_rng {D : DAT} {a : Nat → Int32} {s : Nat} {tot cl : Int} (h : DOK D) (ha : aOK a) (h1 : TOT D a s tot cl) : (0 ≤ tot ∧ tot ≤ 594) ∧ 0 ≤ cl ∧ cl ≤ 6 := by
  obtain ⟨f, g, q, e1, e2⟩ := h1
  have r1 := smN_rng (f := f) (m := 99) (dP D) (fun p hp => (PYd_rng ha (q p hp)).1)
  have r2 := smN_rng (f := g) (m := 1) (dP D) (fun p hp => (PYd_rng ha (q p hp)).2)
  have := h.2.1
  omega
/-- the first greatest -/
def bst (f : Nat → Int) : Nat → Nat
  | 0 => 0
  | k + 1 => if f (bst f k) < f (k + 1) then k + 1 else bst f k
theorem bst_le (f : Nat → Int) : ∀ k, bst f k ≤ k := by
  intro k
  induction k with
  | zero => exact Nat.le_refl _
  | succ k ih =>
    show (if f (bst f k) < f (k + 1) then k + 1 else bst f k) ≤ k + 1
    split <;> omega
theorem bst_cong {f g : Nat → Int} : ∀ k, (∀ v, v ≤ k → f v = g v) → bst f k = bst g k := by
  intro k
  induction k with
  | zero => intro _; rfl
  | succ k ih =>
    intro h
    have e := ih (fun v hv => h v (by omega))
    have l := bst_le g k
    show (if f (bst f k) < f (k + 1) then k + 1 else bst f k) = (if g (bst g k) < g (k + 1) then k + 1 else bst g k)
    rw [e, h (bst g k) (by omega), h (k + 1) (Nat.le_refl _)]
theorem aOK_upd {a : Nat → Int32} {s v : Nat} (h : aOK a) (hv : v < 21) : aOK (updA a s (Int32.ofNat v)) := upd_rng hv h
/-- one step of a round -/
def STPm (D : DAT) (a : Nat → Int32) (s : Nat) (a' : Nat → Int32) (ch : Nat) : Prop := ∃ f : Nat → Int, (∀ v, v < 21 → ∃ c, TOT D (updA a s (Int32.ofNat v)) s (f v) c) ∧ ((f (a s).toInt.toNat < f (bst f 20) ∧ a' = updA a s (Int32.ofNat (bst f 20)) ∧ ch = 1) ∨ (¬ f (a s).toInt.toNat < f (bst f 20) ∧ a' = a ∧ ch = 0))
theorem STPm_ok {D : DAT} {a a' : Nat → Int32} {s ch : Nat} (h : aOK a) (g : STPm D a s a' ch) : aOK a' := by
  obtain ⟨f, -, ⟨-, e, -⟩ | ⟨-, e, -⟩⟩ := g
  · rw [e]
    exact aOK_upd h (by have := bst_le f 20; omega)
  · rw [e]
    exact h
theorem STPm_fun {D : DAT} {a a' a'' : Nat → Int32} {s ch ch' : Nat} (h : DOK D) (ha : aOK a) (g : STPm D a s a' ch) (g' : STPm D a s a'' ch') : a' = a'' ∧ ch = ch' := by
  obtain ⟨f, hf, q⟩ := g
  obtain ⟨f', hf', q'⟩ := g'
  have e : ∀ v, v ≤ 20 → f v = f' v := fun v hv => by
    obtain ⟨c, t⟩ := hf v (by omega)
    obtain ⟨c', t'⟩ := hf' v (by omega)
    exact (TOT_fun h (aOK_upd ha (by omega)) t t').1
  have eb := bst_cong 20 e
  have lb := bst_le f' 20
  have as := ha s
  have e1 := e (a s).toInt.toNat (by omega)
  have e2 := e (bst f' 20) lb
  rw [eb, e1, e2] at q
  rcases q with ⟨c, q1, q2⟩ | ⟨c, q1, q2⟩
  · rcases q' with ⟨d, p1, p2⟩ | ⟨d, p1, p2⟩
    · exact ⟨by rw [q1, p1], by omega⟩
    · exact absurd c d
  · rcases q' with ⟨d, p1, p2⟩ | ⟨d, p1, p2⟩
    · exact absurd d c
    · exact ⟨by rw [q1, p1], by omega⟩
/-- a round, from the lowest step on, k steps of it -/
def RNm (D : DAT) : Nat → (Nat → Int32) → (Nat → Int32) → Nat → Prop
  | 0, a, a', ch => a' = a ∧ ch = 0
  | k + 1, a, a', ch => ∃ a1 c1 c2, RNm D k a a1 c1 ∧ STPm D a1 k a' c2 ∧ ch = (if c1 = 0 ∧ c2 = 0 then 0 else 1)
theorem RNm_ok {D : DAT} {a : Nat → Int32} (h : aOK a) : ∀ (k : Nat) (a' : Nat → Int32) (ch : Nat), RNm D k a a' ch → aOK a' := by
  intro k
  induction k with
  | zero => intro a' ch g; rw [g.1]; exact h
  | succ k ih =>
    intro a' ch g
    obtain ⟨a1, c1, c2, g1, g2, -⟩ := g
    exact STPm_ok (ih a1 c1 g1) g2
theorem RNm_fun {D : DAT} {a : Nat → Int32} (h : DOK D) (ha : aOK a) : ∀ (k : Nat) (a' a'' : Nat → Int32) (ch ch' : Nat), RNm D k a a' ch → RNm D k a a'' ch' → a' = a'' ∧ ch = ch' := by
  intro k
  induction k with
  | zero => intro a' a'' ch ch' g g'; exact ⟨by rw [g.1, g'.1], by rw [g.2, g'.2]⟩
  | succ k ih =>
    intro a' a'' ch ch' g g'
    obtain ⟨a1, c1, c2, g1, g2, e⟩ := g
    obtain ⟨b1, d1, d2, g1', g2', e'⟩ := g'
    obtain ⟨x1, x2⟩ := ih _ _ _ _ g1 g1'
    subst x1; subst x2
    obtain ⟨y1, y2⟩ := STPm_fun h (RNm_ok ha k a1 c1 g1) g2 g2'
    exact ⟨y1, by rw [e, e', y2]⟩
/-- N rounds at most, till one changes nothing: how many changed something, whether the last changed nothing -/
def MKm (D : DAT) : Nat → (Nat → Int32) → (Nat → Int32) → Nat → Nat → Prop
  | 0, a, a', chg, still => a' = a ∧ chg = 0 ∧ still = 0
  | k + 1, a, a', chg, still => ∃ a1 g1 s1, MKm D k a a1 g1 s1 ∧ ((s1 = 1 ∧ a' = a1 ∧ chg = g1 ∧ still = 1) ∨ (s1 = 0 ∧ ∃ c, RNm D (dN D) a1 a' c ∧ ((c = 0 ∧ chg = g1 ∧ still = 1) ∨ (c ≠ 0 ∧ chg = g1 + 1 ∧ still = 0))))
theorem MKm_ok {D : DAT} {a : Nat → Int32} (h : aOK a) : ∀ (k : Nat) (a' : Nat → Int32) (g s : Nat), MKm D k a a' g s → aOK a' := by
  intro k
  induction k with
  | zero => intro a' g s q; rw [q.1]; exact h
  | succ k ih =>
    intro a' g s q
    obtain ⟨a1, g1, s1, q1, ⟨-, e, -⟩ | ⟨-, c, r, -⟩⟩ := q
    · rw [e]; exact ih _ _ _ q1
    · exact RNm_ok (ih _ _ _ q1) _ _ _ r
theorem MKm_fun {D : DAT} {a : Nat → Int32} (h : DOK D) (ha : aOK a) : ∀ (k : Nat) (a' a'' : Nat → Int32) (g s g' s' : Nat), MKm D k a a' g s → MKm D k a a'' g' s' → a' = a'' ∧ g = g' ∧ s = s' := by
  intro k
  induction k with
  | zero => intro a' a'' g s g' s' q q'; exact ⟨by rw [q.1, q'.1], by rw [q.2.1, q'.2.1], by rw [q.2.2, q'.2.2]⟩
  | succ k ih =>
    intro a' a'' g s g' s' q q'
    obtain ⟨a1, g1, s1, q1, q2⟩ := q
    obtain ⟨b1, d1, t1, p1, p2⟩ := q'
    obtain ⟨x1, x2, x3⟩ := ih _ _ _ _ _ _ q1 p1
    subst x1; subst x2; subst x3
    rcases q2 with ⟨y1, y2, y3, y4⟩ | ⟨y1, c, r, y2⟩
    · rcases p2 with ⟨z1, z2, z3, z4⟩ | ⟨z1, -⟩
      · exact ⟨by rw [y2, z2], by omega, by omega⟩
      · omega
    · rcases p2 with ⟨z1, -⟩ | ⟨z1, c', r', z2⟩
      · omega
      · obtain ⟨w1, w2⟩ := RNm_fun h (MKm_ok ha _ _ _ _ q1) _ _ _ _ _ r r'
        subst w2
        refine ⟨w1, ?_, ?_⟩
        · rcases y2 with ⟨_, _, _⟩ | ⟨_, _, _⟩ <;> rcases z2 with ⟨_, _, _⟩ | ⟨_, _, _⟩ <;> omega
        · rcases y2 with ⟨_, _, _⟩ | ⟨_, _, _⟩ <;> rcases z2 with ⟨_, _, _⟩ | ⟨_, _, _⟩ <;> omega
/-! ===== what is shown twice holds at once ===== -/
set_option maxHeartbeats 4000000 in
theorem and_X12_mainOf_L4 {Z : jZ} {Q1 Q2 Q3 : Int32 → jI → jL → Prop} (hq : ∀ (x0 : Int32) (x1 : jI) (x2 : jL), Q1 x0 x1 x2 → Q2 x0 x1 x2 → Q3 x0 x1 x2) : ∀ (n m : Nat) (v0 : Nat) (v1 : Int32) (v2 : Int32) (v3 : Int32) (I : jI) (L : jL), f_X12_mainOf_L4 Z Q1 n v0 v1 v2 v3 I L → f_X12_mainOf_L4 Z Q2 m v0 v1 v2 v3 I L → f_X12_mainOf_L4 Z Q3 n v0 v1 v2 v3 I L := by
  intro n
  induction n with
  | zero => intro m v0 v1 v2 v3 I L h1 h2; exact h1.elim
  | succ n ih =>
    intro m v0 v1 v2 v3 I L h1 h2
    cases m with
    | zero => exact h2.elim
    | succ m =>
      unfold f_X12_mainOf_L4 at h1 h2 ⊢
      refine ⟨fun c => ?_, fun c => ?_⟩
      · have h1 := h1.1 c
        have h2 := h2.1 c
        exact hq _ _ _ h1 h2
      · have h1 := h1.2 c
        have h2 := h2.2 c
        intro b3 eb3
        have h1 := h1 b3 eb3
        have h2 := h2 b3 eb3
        refine ⟨h1.1, ?_⟩
        have h1 := h1.2
        have h2 := h2.2
        intro b5 eb5
        have h1 := h1 b5 eb5
        have h2 := h2 b5 eb5
        refine ⟨h1.1, ?_⟩
        have h1 := h1.2
        have h2 := h2.2
        refine ⟨fun c => ?_, fun c => ?_⟩
        · have h1 := h1.1 c
          have h2 := h2.1 c
          unfold f_X12_mainOf_b37 at h1 h2 ⊢
          intro x1 ex1
          have h1 := h1 x1 ex1
          have h2 := h2 x1 ex1
          exact ih _ _ _ _ _ _ _ h1 h2
        · have h1 := h1.2 c
          have h2 := h2.2 c
          unfold f_X12_mainOf_b37 at h1 h2 ⊢
          intro x1 ex1
          have h1 := h1 x1 ex1
          have h2 := h2 x1 ex1
          exact ih _ _ _ _ _ _ _ h1 h2
set_option maxHeartbeats 4000000 in
theorem and_X12_mainOf {v0 : Nat} {v1 : Int32} {Z : jZ} {I : jI} {L : jL} {Q1 Q2 Q3 : Int32 → jI → jL → Prop} (h1 : f_X12_mainOf v0 v1 Z I L Q1) (h2 : f_X12_mainOf v0 v1 Z I L Q2) (hq : ∀ (x0 : Int32) (x1 : jI) (x2 : jL), Q1 x0 x1 x2 → Q2 x0 x1 x2 → Q3 x0 x1 x2) : f_X12_mainOf v0 v1 Z I L Q3 := by
  unfold f_X12_mainOf at h1 h2 ⊢
  obtain ⟨n1, h1⟩ := h1
  obtain ⟨n2, h2⟩ := h2
  exact ⟨n1, and_X12_mainOf_L4  hq n1 n2 _ _ _ _ _ _ h1 h2⟩
set_option maxHeartbeats 4000000 in
theorem and_X12_has {v0 : Int32} {v1 : Int32} {Z : jZ} {I : jI} {L : jL} {Q1 Q2 Q3 : Int32 → jI → jL → Prop} (h1 : f_X12_has v0 v1 Z I L Q1) (h2 : f_X12_has v0 v1 Z I L Q2) (hq : ∀ (x0 : Int32) (x1 : jI) (x2 : jL), Q1 x0 x1 x2 → Q2 x0 x1 x2 → Q3 x0 x1 x2) : f_X12_has v0 v1 Z I L Q3 := by
  unfold f_X12_has at h1 h2 ⊢
  refine ⟨fun c => ?_, fun c => ?_⟩
  · have h1 := h1.1 c
    have h2 := h2.1 c
    exact hq _ _ _ h1 h2
  · have h1 := h1.2 c
    have h2 := h2.2 c
    exact hq _ _ _ h1 h2
set_option maxHeartbeats 4000000 in
theorem and_X12_begin {B : Nat × Nat} {v0 : Nat} {v1 : Nat} {v2 : Int32} {v3 : Int32} {Z : jZ} {I : jI} {L : jL} {Q1 Q2 Q3 : jZ → jI → jL → Prop} (h1 : f_X12_begin B v0 v1 v2 v3 Z I L Q1) (h2 : f_X12_begin B v0 v1 v2 v3 Z I L Q2) (hq : ∀ (x0 : jZ) (x1 : jI) (x2 : jL), Q1 x0 x1 x2 → Q2 x0 x1 x2 → Q3 x0 x1 x2) : f_X12_begin B v0 v1 v2 v3 Z I L Q3 := by
  unfold f_X12_begin at h1 h2 ⊢
  intro Z1 eZ1
  have h1 := h1 Z1 eZ1
  have h2 := h2 Z1 eZ1
  intro I4 eI4
  have h1 := h1 I4 eI4
  have h2 := h2 I4 eI4
  intro I5 eI5
  have h1 := h1 I5 eI5
  have h2 := h2 I5 eI5
  intro I6 eI6
  have h1 := h1 I6 eI6
  have h2 := h2 I6 eI6
  intro I7 eI7
  have h1 := h1 I7 eI7
  have h2 := h2 I7 eI7
  exact hq _ _ _ h1 h2
def AN12 (F : FTR12) : Prop := ∀ (w v0 : Nat) (v1 : Int32) (Z : jZ) (I : jI) (L : jL) (Q1 Q2 Q3 : Int32 → jI → jL → Prop), F w v0 v1 Z I L Q1 → F w v0 v1 Z I L Q2 → (∀ r I L, Q1 r I L → Q2 r I L → Q3 r I L) → F w v0 v1 Z I L Q3
set_option maxHeartbeats 4000000 in
theorem and_X12_fine {v0 : Nat} {Z : jZ} {I : jI} {L : jL} {Q1 Q2 Q3 : Int32 → jI → jL → Prop} (h1 : f_X12_fine v0 Z I L Q1) (h2 : f_X12_fine v0 Z I L Q2) (hq : ∀ (x0 : Int32) (x1 : jI) (x2 : jL), Q1 x0 x1 x2 → Q2 x0 x1 x2 → Q3 x0 x1 x2) : f_X12_fine v0 Z I L Q3 := by
  unfold f_X12_fine at h1 h2 ⊢
  refine ⟨fun c => ?_, fun c => ?_⟩
  · have h1 := h1.1 c
    have h2 := h2.1 c
    exact hq _ _ _ h1 h2
  · have h1 := h1.2 c
    have h2 := h2.2 c
    exact hq _ _ _ h1 h2
set_option maxHeartbeats 4000000 in
theorem and_X12_here {v0 : Nat} {Z : jZ} {I : jI} {L : jL} {Q1 Q2 Q3 : Int32 → jI → jL → Prop} (h1 : f_X12_here v0 Z I L Q1) (h2 : f_X12_here v0 Z I L Q2) (hq : ∀ (x0 : Int32) (x1 : jI) (x2 : jL), Q1 x0 x1 x2 → Q2 x0 x1 x2 → Q3 x0 x1 x2) : f_X12_here v0 Z I L Q3 := by
  unfold f_X12_here at h1 h2 ⊢
  refine ⟨fun c => ?_, fun c => ?_⟩
  · have h1 := h1.1 c
    have h2 := h2.1 c
    exact hq _ _ _ h1 h2
  · have h1 := h1.2 c
    have h2 := h2.2 c
    refine ⟨fun c => ?_, fun c => ?_⟩
    · have h1 := h1.1 c
      have h2 := h2.1 c
      exact hq _ _ _ h1 h2
    · have h1 := h1.2 c
      have h2 := h2.2 c
      obtain ⟨b3, eb3, kb3, h1⟩ := h1
      obtain ⟨b3o, eb3o, -, h2⟩ := h2
      cases eb3.symm.trans eb3o
      refine ⟨b3, eb3, kb3, ?_⟩
      refine ⟨h1.1, ?_⟩
      have h1 := h1.2
      have h2 := h2.2
      exact hq _ _ _ h1 h2
set_option maxHeartbeats 4000000 in
theorem and_X12_passes {v0 : Nat} {v1 : Int32} {Z : jZ} {I : jI} {L : jL} {Q1 Q2 Q3 : Int32 → jI → jL → Prop} (h1 : f_X12_passes v0 v1 Z I L Q1) (h2 : f_X12_passes v0 v1 Z I L Q2) (hq : ∀ (x0 : Int32) (x1 : jI) (x2 : jL), Q1 x0 x1 x2 → Q2 x0 x1 x2 → Q3 x0 x1 x2) : f_X12_passes v0 v1 Z I L Q3 := by
  unfold f_X12_passes at h1 h2 ⊢
  refine and_X12_fine h1 h2 (fun r7 I3 L4 h1 h2 => ?_)
  refine ⟨fun c => ?_, fun c => ?_⟩
  · have h1 := h1.1 c
    have h2 := h2.1 c
    exact hq _ _ _ h1 h2
  · have h1 := h1.2 c
    have h2 := h2.2 c
    refine and_X12_here h1 h2 (fun r15 I11 L12 h1 h2 => ?_)
    refine ⟨fun c => ?_, fun c => ?_⟩
    · have h1 := h1.1 c
      have h2 := h2.1 c
      intro I17 eI17
      have h1 := h1 I17 eI17
      have h2 := h2 I17 eI17
      exact hq _ _ _ h1 h2
    · have h1 := h1.2 c
      have h2 := h2.2 c
      exact hq _ _ _ h1 h2
set_option maxHeartbeats 4000000 in
theorem and_X12_held {F : FTR12} {v0 : Nat} {v1 : Int32} {Z : jZ} {I : jI} {L : jL} {Q1 Q2 Q3 : Int32 → jI → jL → Prop} (hF : AN12 F) (h1 : f_X12_held F v0 v1 Z I L Q1) (h2 : f_X12_held F v0 v1 Z I L Q2) (hq : ∀ (x0 : Int32) (x1 : jI) (x2 : jL), Q1 x0 x1 x2 → Q2 x0 x1 x2 → Q3 x0 x1 x2) : f_X12_held F v0 v1 Z I L Q3 := by
  unfold f_X12_held at h1 h2 ⊢
  refine hF _ _ _ _ _ _ _ _ _ h1 h2 (fun r7 I3 L4 h1 h2 => ?_)
  refine and_X12_passes h1 h2 (fun r14 I10 L11 h1 h2 => ?_)
  refine ⟨fun c => ?_, fun c => ?_⟩
  · have h1 := h1.1 c
    have h2 := h2.1 c
    refine and_X12_passes h1 h2 (fun r22 I18 L19 h1 h2 => ?_)
    refine ⟨fun c => ?_, fun c => ?_⟩
    · have h1 := h1.1 c
      have h2 := h2.1 c
      refine and_X12_passes h1 h2 (fun r30 I26 L27 h1 h2 => ?_)
      refine ⟨fun c => ?_, fun c => ?_⟩
      · have h1 := h1.1 c
        have h2 := h2.1 c
        exact hq _ _ _ h1 h2
      · have h1 := h1.2 c
        have h2 := h2.2 c
        refine hF _ _ _ _ _ _ _ _ _ h1 h2 (fun r38 I34 L35 h1 h2 => ?_)
        refine ⟨fun c => ?_, fun c => ?_⟩
        · have h1 := h1.1 c
          have h2 := h2.1 c
          exact hq _ _ _ h1 h2
        · have h1 := h1.2 c
          have h2 := h2.2 c
          exact hq _ _ _ h1 h2
    · have h1 := h1.2 c
      have h2 := h2.2 c
      refine hF _ _ _ _ _ _ _ _ _ h1 h2 (fun r46 I42 L43 h1 h2 => ?_)
      refine ⟨fun c => ?_, fun c => ?_⟩
      · have h1 := h1.1 c
        have h2 := h2.1 c
        exact hq _ _ _ h1 h2
      · have h1 := h1.2 c
        have h2 := h2.2 c
        exact hq _ _ _ h1 h2
  · have h1 := h1.2 c
    have h2 := h2.2 c
    refine hF _ _ _ _ _ _ _ _ _ h1 h2 (fun r54 I50 L51 h1 h2 => ?_)
    refine ⟨fun c => ?_, fun c => ?_⟩
    · have h1 := h1.1 c
      have h2 := h2.1 c
      exact hq _ _ _ h1 h2
    · have h1 := h1.2 c
      have h2 := h2.2 c
      exact hq _ _ _ h1 h2
set_option maxHeartbeats 4000000 in
theorem and_X12_sum_L6 {F : FTR12} (hF : AN12 F) {Z : jZ} {Q1 Q2 Q3 : Int32 → jI → jL → Prop} (hq : ∀ (x0 : Int32) (x1 : jI) (x2 : jL), Q1 x0 x1 x2 → Q2 x0 x1 x2 → Q3 x0 x1 x2) : ∀ (n m : Nat) (v0 : Nat) (v1 : Int32) (v2 : Int32) (I : jI) (L : jL), f_X12_sum_L6 F Z Q1 n v0 v1 v2 I L → f_X12_sum_L6 F Z Q2 m v0 v1 v2 I L → f_X12_sum_L6 F Z Q3 n v0 v1 v2 I L := by
  intro n
  induction n with
  | zero => intro m v0 v1 v2 I L h1 h2; exact h1.elim
  | succ n ih =>
    intro m v0 v1 v2 I L h1 h2
    cases m with
    | zero => exact h2.elim
    | succ m =>
      unfold f_X12_sum_L6 at h1 h2 ⊢
      refine and_X12_fine h1 h2 (fun r24 I20 L21 h1 h2 => ?_)
      refine ⟨fun c => ?_, fun c => ?_⟩
      · have h1 := h1.1 c
        have h2 := h2.1 c
        exact hq _ _ _ h1 h2
      · have h1 := h1.2 c
        have h2 := h2.2 c
        refine and_X12_here h1 h2 (fun r32 I28 L29 h1 h2 => ?_)
        refine ⟨fun c => ?_, fun c => ?_⟩
        · have h1 := h1.1 c
          have h2 := h2.1 c
          unfold f_X12_sum_b31 at h1 h2 ⊢
          refine and_X12_here h1 h2 (fun r16 I12 L13 h1 h2 => ?_)
          refine ⟨fun c => ?_, fun c => ?_⟩
          · have h1 := h1.1 c
            have h2 := h2.1 c
            unfold f_X12_sum_b45 at h1 h2 ⊢
            intro I1 eI1
            have h1 := h1 I1 eI1
            have h2 := h2 I1 eI1
            refine hF _ _ _ _ _ _ _ _ _ h1 h2 (fun r8 I4 L5 h1 h2 => ?_)
            refine ⟨fun c => ?_, fun c => ?_⟩
            · have h1 := h1.1 c
              have h2 := h2.1 c
              unfold f_X12_sum_b78 at h1 h2 ⊢
              exact ih _ _ _ _ _ _ h1 h2
            · have h1 := h1.2 c
              have h2 := h2.2 c
              unfold f_X12_sum_b78 at h1 h2 ⊢
              exact ih _ _ _ _ _ _ h1 h2
          · have h1 := h1.2 c
            have h2 := h2.2 c
            unfold f_X12_sum_b45 at h1 h2 ⊢
            intro I1 eI1
            have h1 := h1 I1 eI1
            have h2 := h2 I1 eI1
            refine hF _ _ _ _ _ _ _ _ _ h1 h2 (fun r8 I4 L5 h1 h2 => ?_)
            refine ⟨fun c => ?_, fun c => ?_⟩
            · have h1 := h1.1 c
              have h2 := h2.1 c
              unfold f_X12_sum_b78 at h1 h2 ⊢
              exact ih _ _ _ _ _ _ h1 h2
            · have h1 := h1.2 c
              have h2 := h2.2 c
              unfold f_X12_sum_b78 at h1 h2 ⊢
              exact ih _ _ _ _ _ _ h1 h2
        · have h1 := h1.2 c
          have h2 := h2.2 c
          refine and_X12_here h1 h2 (fun r40 I36 L37 h1 h2 => ?_)
          refine ⟨fun c => ?_, fun c => ?_⟩
          · have h1 := h1.1 c
            have h2 := h2.1 c
            exact hq _ _ _ h1 h2
          · have h1 := h1.2 c
            have h2 := h2.2 c
            unfold f_X12_sum_b31 at h1 h2 ⊢
            refine and_X12_here h1 h2 (fun r16 I12 L13 h1 h2 => ?_)
            refine ⟨fun c => ?_, fun c => ?_⟩
            · have h1 := h1.1 c
              have h2 := h2.1 c
              unfold f_X12_sum_b45 at h1 h2 ⊢
              intro I1 eI1
              have h1 := h1 I1 eI1
              have h2 := h2 I1 eI1
              refine hF _ _ _ _ _ _ _ _ _ h1 h2 (fun r8 I4 L5 h1 h2 => ?_)
              refine ⟨fun c => ?_, fun c => ?_⟩
              · have h1 := h1.1 c
                have h2 := h2.1 c
                unfold f_X12_sum_b78 at h1 h2 ⊢
                exact ih _ _ _ _ _ _ h1 h2
              · have h1 := h1.2 c
                have h2 := h2.2 c
                unfold f_X12_sum_b78 at h1 h2 ⊢
                exact ih _ _ _ _ _ _ h1 h2
            · have h1 := h1.2 c
              have h2 := h2.2 c
              unfold f_X12_sum_b45 at h1 h2 ⊢
              intro I1 eI1
              have h1 := h1 I1 eI1
              have h2 := h2 I1 eI1
              refine hF _ _ _ _ _ _ _ _ _ h1 h2 (fun r8 I4 L5 h1 h2 => ?_)
              refine ⟨fun c => ?_, fun c => ?_⟩
              · have h1 := h1.1 c
                have h2 := h2.1 c
                unfold f_X12_sum_b78 at h1 h2 ⊢
                exact ih _ _ _ _ _ _ h1 h2
              · have h1 := h1.2 c
                have h2 := h2.2 c
                unfold f_X12_sum_b78 at h1 h2 ⊢
                exact ih _ _ _ _ _ _ h1 h2
set_option maxHeartbeats 4000000 in
theorem and_X12_sum {F : FTR12} {v0 : Nat} {v1 : Int32} {Z : jZ} {I : jI} {L : jL} {Q1 Q2 Q3 : Int32 → jI → jL → Prop} (hF : AN12 F) (h1 : f_X12_sum F v0 v1 Z I L Q1) (h2 : f_X12_sum F v0 v1 Z I L Q2) (hq : ∀ (x0 : Int32) (x1 : jI) (x2 : jL), Q1 x0 x1 x2 → Q2 x0 x1 x2 → Q3 x0 x1 x2) : f_X12_sum F v0 v1 Z I L Q3 := by
  unfold f_X12_sum at h1 h2 ⊢
  refine hF _ _ _ _ _ _ _ _ _ h1 h2 (fun r48 I44 L45 h1 h2 => ?_)
  obtain ⟨n1, h1⟩ := h1
  obtain ⟨n2, h2⟩ := h2
  exact ⟨n1, and_X12_sum_L6 hF hq n1 n2 _ _ _ _ _ h1 h2⟩
set_option maxHeartbeats 4000000 in
theorem and_X12_product_L6 {F : FTR12} (hF : AN12 F) {Z : jZ} {Q1 Q2 Q3 : Int32 → jI → jL → Prop} (hq : ∀ (x0 : Int32) (x1 : jI) (x2 : jL), Q1 x0 x1 x2 → Q2 x0 x1 x2 → Q3 x0 x1 x2) : ∀ (n m : Nat) (v0 : Nat) (v1 : Int32) (v2 : Int32) (I : jI) (L : jL), f_X12_product_L6 F Z Q1 n v0 v1 v2 I L → f_X12_product_L6 F Z Q2 m v0 v1 v2 I L → f_X12_product_L6 F Z Q3 n v0 v1 v2 I L := by
  intro n
  induction n with
  | zero => intro m v0 v1 v2 I L h1 h2; exact h1.elim
  | succ n ih =>
    intro m v0 v1 v2 I L h1 h2
    cases m with
    | zero => exact h2.elim
    | succ m =>
      unfold f_X12_product_L6 at h1 h2 ⊢
      refine and_X12_fine h1 h2 (fun r26 I22 L23 h1 h2 => ?_)
      refine ⟨fun c => ?_, fun c => ?_⟩
      · have h1 := h1.1 c
        have h2 := h2.1 c
        exact hq _ _ _ h1 h2
      · have h1 := h1.2 c
        have h2 := h2.2 c
        refine and_X12_here h1 h2 (fun r34 I30 L31 h1 h2 => ?_)
        refine ⟨fun c => ?_, fun c => ?_⟩
        · have h1 := h1.1 c
          have h2 := h2.1 c
          unfold f_X12_product_b31 at h1 h2 ⊢
          refine and_X12_here h1 h2 (fun r18 I14 L15 h1 h2 => ?_)
          refine ⟨fun c => ?_, fun c => ?_⟩
          · have h1 := h1.1 c
            have h2 := h2.1 c
            unfold f_X12_product_b45 at h1 h2 ⊢
            intro I1 eI1
            have h1 := h1 I1 eI1
            have h2 := h2 I1 eI1
            refine hF _ _ _ _ _ _ _ _ _ h1 h2 (fun r8 I4 L5 h1 h2 => ?_)
            refine ⟨fun c => ?_, fun c => ?_⟩
            · have h1 := h1.1 c
              have h2 := h2.1 c
              refine ⟨fun c => ?_, fun c => ?_⟩
              · have h1 := h1.1 c
                have h2 := h2.1 c
                refine ⟨h1.1, ?_⟩
                have h1 := h1.2
                have h2 := h2.2
                unfold f_X12_product_b87 at h1 h2 ⊢
                exact ih _ _ _ _ _ _ h1 h2
              · have h1 := h1.2 c
                have h2 := h2.2 c
                unfold f_X12_product_b87 at h1 h2 ⊢
                exact ih _ _ _ _ _ _ h1 h2
            · have h1 := h1.2 c
              have h2 := h2.2 c
              unfold f_X12_product_b87 at h1 h2 ⊢
              exact ih _ _ _ _ _ _ h1 h2
          · have h1 := h1.2 c
            have h2 := h2.2 c
            unfold f_X12_product_b45 at h1 h2 ⊢
            intro I1 eI1
            have h1 := h1 I1 eI1
            have h2 := h2 I1 eI1
            refine hF _ _ _ _ _ _ _ _ _ h1 h2 (fun r8 I4 L5 h1 h2 => ?_)
            refine ⟨fun c => ?_, fun c => ?_⟩
            · have h1 := h1.1 c
              have h2 := h2.1 c
              refine ⟨fun c => ?_, fun c => ?_⟩
              · have h1 := h1.1 c
                have h2 := h2.1 c
                refine ⟨h1.1, ?_⟩
                have h1 := h1.2
                have h2 := h2.2
                unfold f_X12_product_b87 at h1 h2 ⊢
                exact ih _ _ _ _ _ _ h1 h2
              · have h1 := h1.2 c
                have h2 := h2.2 c
                unfold f_X12_product_b87 at h1 h2 ⊢
                exact ih _ _ _ _ _ _ h1 h2
            · have h1 := h1.2 c
              have h2 := h2.2 c
              unfold f_X12_product_b87 at h1 h2 ⊢
              exact ih _ _ _ _ _ _ h1 h2
        · have h1 := h1.2 c
          have h2 := h2.2 c
          refine and_X12_here h1 h2 (fun r42 I38 L39 h1 h2 => ?_)
          refine ⟨fun c => ?_, fun c => ?_⟩
          · have h1 := h1.1 c
            have h2 := h2.1 c
            exact hq _ _ _ h1 h2
          · have h1 := h1.2 c
            have h2 := h2.2 c
            unfold f_X12_product_b31 at h1 h2 ⊢
            refine and_X12_here h1 h2 (fun r18 I14 L15 h1 h2 => ?_)
            refine ⟨fun c => ?_, fun c => ?_⟩
            · have h1 := h1.1 c
              have h2 := h2.1 c
              unfold f_X12_product_b45 at h1 h2 ⊢
              intro I1 eI1
              have h1 := h1 I1 eI1
              have h2 := h2 I1 eI1
              refine hF _ _ _ _ _ _ _ _ _ h1 h2 (fun r8 I4 L5 h1 h2 => ?_)
              refine ⟨fun c => ?_, fun c => ?_⟩
              · have h1 := h1.1 c
                have h2 := h2.1 c
                refine ⟨fun c => ?_, fun c => ?_⟩
                · have h1 := h1.1 c
                  have h2 := h2.1 c
                  refine ⟨h1.1, ?_⟩
                  have h1 := h1.2
                  have h2 := h2.2
                  unfold f_X12_product_b87 at h1 h2 ⊢
                  exact ih _ _ _ _ _ _ h1 h2
                · have h1 := h1.2 c
                  have h2 := h2.2 c
                  unfold f_X12_product_b87 at h1 h2 ⊢
                  exact ih _ _ _ _ _ _ h1 h2
              · have h1 := h1.2 c
                have h2 := h2.2 c
                unfold f_X12_product_b87 at h1 h2 ⊢
                exact ih _ _ _ _ _ _ h1 h2
            · have h1 := h1.2 c
              have h2 := h2.2 c
              unfold f_X12_product_b45 at h1 h2 ⊢
              intro I1 eI1
              have h1 := h1 I1 eI1
              have h2 := h2 I1 eI1
              refine hF _ _ _ _ _ _ _ _ _ h1 h2 (fun r8 I4 L5 h1 h2 => ?_)
              refine ⟨fun c => ?_, fun c => ?_⟩
              · have h1 := h1.1 c
                have h2 := h2.1 c
                refine ⟨fun c => ?_, fun c => ?_⟩
                · have h1 := h1.1 c
                  have h2 := h2.1 c
                  refine ⟨h1.1, ?_⟩
                  have h1 := h1.2
                  have h2 := h2.2
                  unfold f_X12_product_b87 at h1 h2 ⊢
                  exact ih _ _ _ _ _ _ h1 h2
                · have h1 := h1.2 c
                  have h2 := h2.2 c
                  unfold f_X12_product_b87 at h1 h2 ⊢
                  exact ih _ _ _ _ _ _ h1 h2
              · have h1 := h1.2 c
                have h2 := h2.2 c
                unfold f_X12_product_b87 at h1 h2 ⊢
                exact ih _ _ _ _ _ _ h1 h2
set_option maxHeartbeats 4000000 in
theorem and_X12_product {F : FTR12} {v0 : Nat} {v1 : Int32} {Z : jZ} {I : jI} {L : jL} {Q1 Q2 Q3 : Int32 → jI → jL → Prop} (hF : AN12 F) (h1 : f_X12_product F v0 v1 Z I L Q1) (h2 : f_X12_product F v0 v1 Z I L Q2) (hq : ∀ (x0 : Int32) (x1 : jI) (x2 : jL), Q1 x0 x1 x2 → Q2 x0 x1 x2 → Q3 x0 x1 x2) : f_X12_product F v0 v1 Z I L Q3 := by
  unfold f_X12_product at h1 h2 ⊢
  refine hF _ _ _ _ _ _ _ _ _ h1 h2 (fun r50 I46 L47 h1 h2 => ?_)
  obtain ⟨n1, h1⟩ := h1
  obtain ⟨n2, h2⟩ := h2
  exact ⟨n1, and_X12_product_L6 hF hq n1 n2 _ _ _ _ _ h1 h2⟩
set_option maxHeartbeats 4000000 in
theorem and_X12_in {v0 : Int32} {v1 : Int32} {v2 : Int32} {Z : jZ} {I : jI} {L : jL} {Q1 Q2 Q3 : Int32 → jI → jL → Prop} (h1 : f_X12_in v0 v1 v2 Z I L Q1) (h2 : f_X12_in v0 v1 v2 Z I L Q2) (hq : ∀ (x0 : Int32) (x1 : jI) (x2 : jL), Q1 x0 x1 x2 → Q2 x0 x1 x2 → Q3 x0 x1 x2) : f_X12_in v0 v1 v2 Z I L Q3 := by
  unfold f_X12_in at h1 h2 ⊢
  refine ⟨fun c => ?_, fun c => ?_⟩
  · have h1 := h1.1 c
    have h2 := h2.1 c
    exact hq _ _ _ h1 h2
  · have h1 := h1.2 c
    have h2 := h2.2 c
    refine ⟨fun c => ?_, fun c => ?_⟩
    · have h1 := h1.1 c
      have h2 := h2.1 c
      exact hq _ _ _ h1 h2
    · have h1 := h1.2 c
      have h2 := h2.2 c
      exact hq _ _ _ h1 h2
set_option maxHeartbeats 4000000 in
theorem and_X12_letter {v0 : Nat} {v1 : Int32} {Z : jZ} {I : jI} {L : jL} {Q1 Q2 Q3 : Int32 → jI → jL → Prop} (h1 : f_X12_letter v0 v1 Z I L Q1) (h2 : f_X12_letter v0 v1 Z I L Q2) (hq : ∀ (x0 : Int32) (x1 : jI) (x2 : jL), Q1 x0 x1 x2 → Q2 x0 x1 x2 → Q3 x0 x1 x2) : f_X12_letter v0 v1 Z I L Q3 := by
  unfold f_X12_letter at h1 h2 ⊢
  refine ⟨fun c => ?_, fun c => ?_⟩
  · have h1 := h1.1 c
    have h2 := h2.1 c
    intro b2 eb2
    have h1 := h1 b2 eb2
    have h2 := h2 b2 eb2
    refine ⟨h1.1, ?_⟩
    have h1 := h1.2
    have h2 := h2.2
    exact hq _ _ _ h1 h2
  · have h1 := h1.2 c
    have h2 := h2.2 c
    refine ⟨fun c => ?_, fun c => ?_⟩
    · have h1 := h1.1 c
      have h2 := h2.1 c
      exact hq _ _ _ h1 h2
    · have h1 := h1.2 c
      have h2 := h2.2 c
      refine ⟨fun c => ?_, fun c => ?_⟩
      · have h1 := h1.1 c
        have h2 := h2.1 c
        intro b6 eb6
        have h1 := h1 b6 eb6
        have h2 := h2 b6 eb6
        refine ⟨h1.1, ?_⟩
        have h1 := h1.2
        have h2 := h2.2
        exact hq _ _ _ h1 h2
      · have h1 := h1.2 c
        have h2 := h2.2 c
        refine ⟨fun c => ?_, fun c => ?_⟩
        · have h1 := h1.1 c
          have h2 := h2.1 c
          intro b9 eb9
          have h1 := h1 b9 eb9
          have h2 := h2 b9 eb9
          refine ⟨h1.1, ?_⟩
          have h1 := h1.2
          have h2 := h2.2
          exact hq _ _ _ h1 h2
        · have h1 := h1.2 c
          have h2 := h2.2 c
          refine ⟨fun c => ?_, fun c => ?_⟩
          · have h1 := h1.1 c
            have h2 := h2.1 c
            intro b12 eb12
            have h1 := h1 b12 eb12
            have h2 := h2 b12 eb12
            refine ⟨h1.1, ?_⟩
            have h1 := h1.2
            have h2 := h2.2
            refine ⟨fun c => ?_, fun c => ?_⟩
            · have h1 := h1.1 c
              have h2 := h2.1 c
              exact hq _ _ _ h1 h2
            · have h1 := h1.2 c
              have h2 := h2.2 c
              exact hq _ _ _ h1 h2
          · have h1 := h1.2 c
            have h2 := h2.2 c
            refine ⟨fun c => ?_, fun c => ?_⟩
            · have h1 := h1.1 c
              have h2 := h2.1 c
              refine ⟨fun c => ?_, fun c => ?_⟩
              · have h1 := h1.1 c
                have h2 := h2.1 c
                exact hq _ _ _ h1 h2
              · have h1 := h1.2 c
                have h2 := h2.2 c
                intro b17 eb17
                have h1 := h1 b17 eb17
                have h2 := h2 b17 eb17
                refine and_X12_mainOf h1 h2 (fun r24 I20 L21 h1 h2 => ?_)
                refine and_X12_mainOf h1 h2 (fun r31 I27 L28 h1 h2 => ?_)
                refine ⟨h1.1, ?_⟩
                have h1 := h1.2
                have h2 := h2.2
                refine ⟨fun c => ?_, fun c => ?_⟩
                · have h1 := h1.1 c
                  have h2 := h2.1 c
                  exact hq _ _ _ h1 h2
                · have h1 := h1.2 c
                  have h2 := h2.2 c
                  exact hq _ _ _ h1 h2
            · have h1 := h1.2 c
              have h2 := h2.2 c
              exact hq _ _ _ h1 h2
set_option maxHeartbeats 4000000 in
theorem and_X12_fault {v0 : Nat} {v1 : Int32} {Z : jZ} {I : jI} {L : jL} {Q1 Q2 Q3 : jI → jL → Prop} (h1 : f_X12_fault v0 v1 Z I L Q1) (h2 : f_X12_fault v0 v1 Z I L Q2) (hq : ∀ (x0 : jI) (x1 : jL), Q1 x0 x1 → Q2 x0 x1 → Q3 x0 x1) : f_X12_fault v0 v1 Z I L Q3 := by
  unfold f_X12_fault at h1 h2 ⊢
  refine and_X12_fine h1 h2 (fun r7 I3 L4 h1 h2 => ?_)
  refine ⟨fun c => ?_, fun c => ?_⟩
  · have h1 := h1.1 c
    have h2 := h2.1 c
    exact hq _ _ h1 h2
  · have h1 := h1.2 c
    have h2 := h2.2 c
    intro I9 eI9
    have h1 := h1 I9 eI9
    have h2 := h2 I9 eI9
    exact hq _ _ h1 h2
set_option maxHeartbeats 4000000 in
theorem and_X12_number_L18 {Z : jZ} {Q1 Q2 Q3 : Int32 → jI → jL → Prop} (hq : ∀ (x0 : Int32) (x1 : jI) (x2 : jL), Q1 x0 x1 x2 → Q2 x0 x1 x2 → Q3 x0 x1 x2) : ∀ (n m : Nat) (v0 : Nat) (v1 : Int32) (v2 : Int32) (v3 : Int32) (v4 : Int32) (v5 : Int32) (I : jI) (L : jL), f_X12_number_L18 Z Q1 n v0 v1 v2 v3 v4 v5 I L → f_X12_number_L18 Z Q2 m v0 v1 v2 v3 v4 v5 I L → f_X12_number_L18 Z Q3 n v0 v1 v2 v3 v4 v5 I L := by
  intro n
  induction n with
  | zero => intro m v0 v1 v2 v3 v4 v5 I L h1 h2; exact h1.elim
  | succ n ih =>
    intro m v0 v1 v2 v3 v4 v5 I L h1 h2
    cases m with
    | zero => exact h2.elim
    | succ m =>
      unfold f_X12_number_L18 at h1 h2 ⊢
      refine ⟨fun c => ?_, fun c => ?_⟩
      · have h1 := h1.1 c
        have h2 := h2.1 c
        unfold f_X12_number_b71 at h1 h2 ⊢
        refine ⟨fun c => ?_, fun c => ?_⟩
        · have h1 := h1.1 c
          have h2 := h2.1 c
          refine and_X12_in h1 h2 (fun r16 I12 L13 h1 h2 => ?_)
          refine ⟨fun c => ?_, fun c => ?_⟩
          · have h1 := h1.1 c
            have h2 := h2.1 c
            unfold f_X12_number_b111 at h1 h2 ⊢
            refine and_X12_fine h1 h2 (fun r7 I3 L4 h1 h2 => ?_)
            refine ⟨fun c => ?_, fun c => ?_⟩
            · have h1 := h1.1 c
              have h2 := h2.1 c
              exact hq _ _ _ h1 h2
            · have h1 := h1.2 c
              have h2 := h2.2 c
              exact hq _ _ _ h1 h2
          · have h1 := h1.2 c
            have h2 := h2.2 c
            refine and_X12_fault h1 h2 (fun I20 L21 h1 h2 => ?_)
            unfold f_X12_number_b111 at h1 h2 ⊢
            refine and_X12_fine h1 h2 (fun r7 I3 L4 h1 h2 => ?_)
            refine ⟨fun c => ?_, fun c => ?_⟩
            · have h1 := h1.1 c
              have h2 := h2.1 c
              exact hq _ _ _ h1 h2
            · have h1 := h1.2 c
              have h2 := h2.2 c
              exact hq _ _ _ h1 h2
        · have h1 := h1.2 c
          have h2 := h2.2 c
          refine and_X12_fault h1 h2 (fun I26 L27 h1 h2 => ?_)
          unfold f_X12_number_b111 at h1 h2 ⊢
          refine and_X12_fine h1 h2 (fun r7 I3 L4 h1 h2 => ?_)
          refine ⟨fun c => ?_, fun c => ?_⟩
          · have h1 := h1.1 c
            have h2 := h2.1 c
            exact hq _ _ _ h1 h2
          · have h1 := h1.2 c
            have h2 := h2.2 c
            exact hq _ _ _ h1 h2
      · have h1 := h1.2 c
        have h2 := h2.2 c
        refine and_X12_here h1 h2 (fun r37 I33 L34 h1 h2 => ?_)
        refine and_X12_in h1 h2 (fun r44 I40 L41 h1 h2 => ?_)
        refine ⟨fun c => ?_, fun c => ?_⟩
        · have h1 := h1.1 c
          have h2 := h2.1 c
          unfold f_X12_number_b71 at h1 h2 ⊢
          refine ⟨fun c => ?_, fun c => ?_⟩
          · have h1 := h1.1 c
            have h2 := h2.1 c
            refine and_X12_in h1 h2 (fun r16 I12 L13 h1 h2 => ?_)
            refine ⟨fun c => ?_, fun c => ?_⟩
            · have h1 := h1.1 c
              have h2 := h2.1 c
              unfold f_X12_number_b111 at h1 h2 ⊢
              refine and_X12_fine h1 h2 (fun r7 I3 L4 h1 h2 => ?_)
              refine ⟨fun c => ?_, fun c => ?_⟩
              · have h1 := h1.1 c
                have h2 := h2.1 c
                exact hq _ _ _ h1 h2
              · have h1 := h1.2 c
                have h2 := h2.2 c
                exact hq _ _ _ h1 h2
            · have h1 := h1.2 c
              have h2 := h2.2 c
              refine and_X12_fault h1 h2 (fun I20 L21 h1 h2 => ?_)
              unfold f_X12_number_b111 at h1 h2 ⊢
              refine and_X12_fine h1 h2 (fun r7 I3 L4 h1 h2 => ?_)
              refine ⟨fun c => ?_, fun c => ?_⟩
              · have h1 := h1.1 c
                have h2 := h2.1 c
                exact hq _ _ _ h1 h2
              · have h1 := h1.2 c
                have h2 := h2.2 c
                exact hq _ _ _ h1 h2
          · have h1 := h1.2 c
            have h2 := h2.2 c
            refine and_X12_fault h1 h2 (fun I26 L27 h1 h2 => ?_)
            unfold f_X12_number_b111 at h1 h2 ⊢
            refine and_X12_fine h1 h2 (fun r7 I3 L4 h1 h2 => ?_)
            refine ⟨fun c => ?_, fun c => ?_⟩
            · have h1 := h1.1 c
              have h2 := h2.1 c
              exact hq _ _ _ h1 h2
            · have h1 := h1.2 c
              have h2 := h2.2 c
              exact hq _ _ _ h1 h2
        · have h1 := h1.2 c
          have h2 := h2.2 c
          refine and_X12_here h1 h2 (fun r52 I48 L49 h1 h2 => ?_)
          intro x53 ex53
          have h1 := h1 x53 ex53
          have h2 := h2 x53 ex53
          intro I54 eI54
          have h1 := h1 I54 eI54
          have h2 := h2 I54 eI54
          exact ih _ _ _ _ _ _ _ _ _ h1 h2
set_option maxHeartbeats 4000000 in
theorem and_X12_number {v0 : Nat} {v1 : Int32} {v2 : Int32} {v3 : Int32} {Z : jZ} {I : jI} {L : jL} {Q1 Q2 Q3 : Int32 → jI → jL → Prop} (h1 : f_X12_number v0 v1 v2 v3 Z I L Q1) (h2 : f_X12_number v0 v1 v2 v3 Z I L Q2) (hq : ∀ (x0 : Int32) (x1 : jI) (x2 : jL), Q1 x0 x1 x2 → Q2 x0 x1 x2 → Q3 x0 x1 x2) : f_X12_number v0 v1 v2 v3 Z I L Q3 := by
  unfold f_X12_number at h1 h2 ⊢
  refine and_X12_fine h1 h2 (fun r61 I57 L58 h1 h2 => ?_)
  refine ⟨fun c => ?_, fun c => ?_⟩
  · have h1 := h1.1 c
    have h2 := h2.1 c
    intro x63 ex63
    have h1 := h1 x63 ex63
    have h2 := h2 x63 ex63
    obtain ⟨n1, h1⟩ := h1
    obtain ⟨n2, h2⟩ := h2
    exact ⟨n1, and_X12_number_L18  hq n1 n2 _ _ _ _ _ _ _ _ h1 h2⟩
  · have h1 := h1.2 c
    have h2 := h2.2 c
    exact hq _ _ _ h1 h2
set_option maxHeartbeats 4000000 in
theorem and_X12_need {v0 : Nat} {v1 : Int32} {Z : jZ} {I : jI} {L : jL} {Q1 Q2 Q3 : jI → jL → Prop} (h1 : f_X12_need v0 v1 Z I L Q1) (h2 : f_X12_need v0 v1 Z I L Q2) (hq : ∀ (x0 : jI) (x1 : jL), Q1 x0 x1 → Q2 x0 x1 → Q3 x0 x1) : f_X12_need v0 v1 Z I L Q3 := by
  unfold f_X12_need at h1 h2 ⊢
  refine and_X12_passes h1 h2 (fun r7 I3 L4 h1 h2 => ?_)
  refine ⟨fun c => ?_, fun c => ?_⟩
  · have h1 := h1.1 c
    have h2 := h2.1 c
    exact hq _ _ h1 h2
  · have h1 := h1.2 c
    have h2 := h2.2 c
    refine and_X12_fault h1 h2 (fun I11 L12 h1 h2 => ?_)
    exact hq _ _ h1 h2
set_option maxHeartbeats 4000000 in
theorem and_X12_thing {F : FTR12} {v0 : Nat} {v1 : Int32} {Z : jZ} {I : jI} {L : jL} {Q1 Q2 Q3 : Int32 → jI → jL → Prop} (hF : AN12 F) (h1 : f_X12_thing F v0 v1 Z I L Q1) (h2 : f_X12_thing F v0 v1 Z I L Q2) (hq : ∀ (x0 : Int32) (x1 : jI) (x2 : jL), Q1 x0 x1 x2 → Q2 x0 x1 x2 → Q3 x0 x1 x2) : f_X12_thing F v0 v1 Z I L Q3 := by
  unfold f_X12_thing at h1 h2 ⊢
  refine and_X12_passes h1 h2 (fun r44 I40 L41 h1 h2 => ?_)
  refine ⟨fun c => ?_, fun c => ?_⟩
  · have h1 := h1.1 c
    have h2 := h2.1 c
    refine and_X12_fine h1 h2 (fun r52 I48 L49 h1 h2 => ?_)
    refine ⟨fun c => ?_, fun c => ?_⟩
    · have h1 := h1.1 c
      have h2 := h2.1 c
      refine and_X12_here h1 h2 (fun r60 I56 L57 h1 h2 => ?_)
      refine ⟨fun c => ?_, fun c => ?_⟩
      · have h1 := h1.1 c
        have h2 := h2.1 c
        unfold f_X12_thing_b67 at h1 h2 ⊢
        refine and_X12_in h1 h2 (fun r16 I12 L13 h1 h2 => ?_)
        refine ⟨fun c => ?_, fun c => ?_⟩
        · have h1 := h1.1 c
          have h2 := h2.1 c
          refine ⟨fun c => ?_, fun c => ?_⟩
          · have h1 := h1.1 c
            have h2 := h2.1 c
            unfold f_X12_thing_b140 at h1 h2 ⊢
            intro I1 eI1
            have h1 := h1 I1 eI1
            have h2 := h2 I1 eI1
            refine ⟨fun c => ?_, fun c => ?_⟩
            · have h1 := h1.1 c
              have h2 := h2.1 c
              refine and_X12_letter h1 h2 (fun r9 I5 L6 h1 h2 => ?_)
              exact hq _ _ _ h1 h2
            · have h1 := h1.2 c
              have h2 := h2.2 c
              exact hq _ _ _ h1 h2
          · have h1 := h1.2 c
            have h2 := h2.2 c
            refine ⟨fun c => ?_, fun c => ?_⟩
            · have h1 := h1.1 c
              have h2 := h2.1 c
              unfold f_X12_thing_b140 at h1 h2 ⊢
              intro I1 eI1
              have h1 := h1 I1 eI1
              have h2 := h2 I1 eI1
              refine ⟨fun c => ?_, fun c => ?_⟩
              · have h1 := h1.1 c
                have h2 := h2.1 c
                refine and_X12_letter h1 h2 (fun r9 I5 L6 h1 h2 => ?_)
                exact hq _ _ _ h1 h2
              · have h1 := h1.2 c
                have h2 := h2.2 c
                exact hq _ _ _ h1 h2
            · have h1 := h1.2 c
              have h2 := h2.2 c
              refine ⟨fun c => ?_, fun c => ?_⟩
              · have h1 := h1.1 c
                have h2 := h2.1 c
                unfold f_X12_thing_b140 at h1 h2 ⊢
                intro I1 eI1
                have h1 := h1 I1 eI1
                have h2 := h2 I1 eI1
                refine ⟨fun c => ?_, fun c => ?_⟩
                · have h1 := h1.1 c
                  have h2 := h2.1 c
                  refine and_X12_letter h1 h2 (fun r9 I5 L6 h1 h2 => ?_)
                  exact hq _ _ _ h1 h2
                · have h1 := h1.2 c
                  have h2 := h2.2 c
                  exact hq _ _ _ h1 h2
              · have h1 := h1.2 c
                have h2 := h2.2 c
                refine ⟨fun c => ?_, fun c => ?_⟩
                · have h1 := h1.1 c
                  have h2 := h2.1 c
                  unfold f_X12_thing_b140 at h1 h2 ⊢
                  intro I1 eI1
                  have h1 := h1 I1 eI1
                  have h2 := h2 I1 eI1
                  refine ⟨fun c => ?_, fun c => ?_⟩
                  · have h1 := h1.1 c
                    have h2 := h2.1 c
                    refine and_X12_letter h1 h2 (fun r9 I5 L6 h1 h2 => ?_)
                    exact hq _ _ _ h1 h2
                  · have h1 := h1.2 c
                    have h2 := h2.2 c
                    exact hq _ _ _ h1 h2
                · have h1 := h1.2 c
                  have h2 := h2.2 c
                  refine ⟨fun c => ?_, fun c => ?_⟩
                  · have h1 := h1.1 c
                    have h2 := h2.1 c
                    unfold f_X12_thing_b140 at h1 h2 ⊢
                    intro I1 eI1
                    have h1 := h1 I1 eI1
                    have h2 := h2 I1 eI1
                    refine ⟨fun c => ?_, fun c => ?_⟩
                    · have h1 := h1.1 c
                      have h2 := h2.1 c
                      refine and_X12_letter h1 h2 (fun r9 I5 L6 h1 h2 => ?_)
                      exact hq _ _ _ h1 h2
                    · have h1 := h1.2 c
                      have h2 := h2.2 c
                      exact hq _ _ _ h1 h2
                  · have h1 := h1.2 c
                    have h2 := h2.2 c
                    refine ⟨fun c => ?_, fun c => ?_⟩
                    · have h1 := h1.1 c
                      have h2 := h2.1 c
                      unfold f_X12_thing_b140 at h1 h2 ⊢
                      intro I1 eI1
                      have h1 := h1 I1 eI1
                      have h2 := h2 I1 eI1
                      refine ⟨fun c => ?_, fun c => ?_⟩
                      · have h1 := h1.1 c
                        have h2 := h2.1 c
                        refine and_X12_letter h1 h2 (fun r9 I5 L6 h1 h2 => ?_)
                        exact hq _ _ _ h1 h2
                      · have h1 := h1.2 c
                        have h2 := h2.2 c
                        exact hq _ _ _ h1 h2
                    · have h1 := h1.2 c
                      have h2 := h2.2 c
                      refine ⟨fun c => ?_, fun c => ?_⟩
                      · have h1 := h1.1 c
                        have h2 := h2.1 c
                        unfold f_X12_thing_b140 at h1 h2 ⊢
                        intro I1 eI1
                        have h1 := h1 I1 eI1
                        have h2 := h2 I1 eI1
                        refine ⟨fun c => ?_, fun c => ?_⟩
                        · have h1 := h1.1 c
                          have h2 := h2.1 c
                          refine and_X12_letter h1 h2 (fun r9 I5 L6 h1 h2 => ?_)
                          exact hq _ _ _ h1 h2
                        · have h1 := h1.2 c
                          have h2 := h2.2 c
                          exact hq _ _ _ h1 h2
                      · have h1 := h1.2 c
                        have h2 := h2.2 c
                        refine and_X12_fault h1 h2 (fun I27 L28 h1 h2 => ?_)
                        exact hq _ _ _ h1 h2
        · have h1 := h1.2 c
          have h2 := h2.2 c
          refine and_X12_number h1 h2 (fun r37 I33 L34 h1 h2 => ?_)
          exact hq _ _ _ h1 h2
      · have h1 := h1.2 c
        have h2 := h2.2 c
        refine ⟨fun c => ?_, fun c => ?_⟩
        · have h1 := h1.1 c
          have h2 := h2.1 c
          unfold f_X12_thing_b67 at h1 h2 ⊢
          refine and_X12_in h1 h2 (fun r16 I12 L13 h1 h2 => ?_)
          refine ⟨fun c => ?_, fun c => ?_⟩
          · have h1 := h1.1 c
            have h2 := h2.1 c
            refine ⟨fun c => ?_, fun c => ?_⟩
            · have h1 := h1.1 c
              have h2 := h2.1 c
              unfold f_X12_thing_b140 at h1 h2 ⊢
              intro I1 eI1
              have h1 := h1 I1 eI1
              have h2 := h2 I1 eI1
              refine ⟨fun c => ?_, fun c => ?_⟩
              · have h1 := h1.1 c
                have h2 := h2.1 c
                refine and_X12_letter h1 h2 (fun r9 I5 L6 h1 h2 => ?_)
                exact hq _ _ _ h1 h2
              · have h1 := h1.2 c
                have h2 := h2.2 c
                exact hq _ _ _ h1 h2
            · have h1 := h1.2 c
              have h2 := h2.2 c
              refine ⟨fun c => ?_, fun c => ?_⟩
              · have h1 := h1.1 c
                have h2 := h2.1 c
                unfold f_X12_thing_b140 at h1 h2 ⊢
                intro I1 eI1
                have h1 := h1 I1 eI1
                have h2 := h2 I1 eI1
                refine ⟨fun c => ?_, fun c => ?_⟩
                · have h1 := h1.1 c
                  have h2 := h2.1 c
                  refine and_X12_letter h1 h2 (fun r9 I5 L6 h1 h2 => ?_)
                  exact hq _ _ _ h1 h2
                · have h1 := h1.2 c
                  have h2 := h2.2 c
                  exact hq _ _ _ h1 h2
              · have h1 := h1.2 c
                have h2 := h2.2 c
                refine ⟨fun c => ?_, fun c => ?_⟩
                · have h1 := h1.1 c
                  have h2 := h2.1 c
                  unfold f_X12_thing_b140 at h1 h2 ⊢
                  intro I1 eI1
                  have h1 := h1 I1 eI1
                  have h2 := h2 I1 eI1
                  refine ⟨fun c => ?_, fun c => ?_⟩
                  · have h1 := h1.1 c
                    have h2 := h2.1 c
                    refine and_X12_letter h1 h2 (fun r9 I5 L6 h1 h2 => ?_)
                    exact hq _ _ _ h1 h2
                  · have h1 := h1.2 c
                    have h2 := h2.2 c
                    exact hq _ _ _ h1 h2
                · have h1 := h1.2 c
                  have h2 := h2.2 c
                  refine ⟨fun c => ?_, fun c => ?_⟩
                  · have h1 := h1.1 c
                    have h2 := h2.1 c
                    unfold f_X12_thing_b140 at h1 h2 ⊢
                    intro I1 eI1
                    have h1 := h1 I1 eI1
                    have h2 := h2 I1 eI1
                    refine ⟨fun c => ?_, fun c => ?_⟩
                    · have h1 := h1.1 c
                      have h2 := h2.1 c
                      refine and_X12_letter h1 h2 (fun r9 I5 L6 h1 h2 => ?_)
                      exact hq _ _ _ h1 h2
                    · have h1 := h1.2 c
                      have h2 := h2.2 c
                      exact hq _ _ _ h1 h2
                  · have h1 := h1.2 c
                    have h2 := h2.2 c
                    refine ⟨fun c => ?_, fun c => ?_⟩
                    · have h1 := h1.1 c
                      have h2 := h2.1 c
                      unfold f_X12_thing_b140 at h1 h2 ⊢
                      intro I1 eI1
                      have h1 := h1 I1 eI1
                      have h2 := h2 I1 eI1
                      refine ⟨fun c => ?_, fun c => ?_⟩
                      · have h1 := h1.1 c
                        have h2 := h2.1 c
                        refine and_X12_letter h1 h2 (fun r9 I5 L6 h1 h2 => ?_)
                        exact hq _ _ _ h1 h2
                      · have h1 := h1.2 c
                        have h2 := h2.2 c
                        exact hq _ _ _ h1 h2
                    · have h1 := h1.2 c
                      have h2 := h2.2 c
                      refine ⟨fun c => ?_, fun c => ?_⟩
                      · have h1 := h1.1 c
                        have h2 := h2.1 c
                        unfold f_X12_thing_b140 at h1 h2 ⊢
                        intro I1 eI1
                        have h1 := h1 I1 eI1
                        have h2 := h2 I1 eI1
                        refine ⟨fun c => ?_, fun c => ?_⟩
                        · have h1 := h1.1 c
                          have h2 := h2.1 c
                          refine and_X12_letter h1 h2 (fun r9 I5 L6 h1 h2 => ?_)
                          exact hq _ _ _ h1 h2
                        · have h1 := h1.2 c
                          have h2 := h2.2 c
                          exact hq _ _ _ h1 h2
                      · have h1 := h1.2 c
                        have h2 := h2.2 c
                        refine ⟨fun c => ?_, fun c => ?_⟩
                        · have h1 := h1.1 c
                          have h2 := h2.1 c
                          unfold f_X12_thing_b140 at h1 h2 ⊢
                          intro I1 eI1
                          have h1 := h1 I1 eI1
                          have h2 := h2 I1 eI1
                          refine ⟨fun c => ?_, fun c => ?_⟩
                          · have h1 := h1.1 c
                            have h2 := h2.1 c
                            refine and_X12_letter h1 h2 (fun r9 I5 L6 h1 h2 => ?_)
                            exact hq _ _ _ h1 h2
                          · have h1 := h1.2 c
                            have h2 := h2.2 c
                            exact hq _ _ _ h1 h2
                        · have h1 := h1.2 c
                          have h2 := h2.2 c
                          refine and_X12_fault h1 h2 (fun I27 L28 h1 h2 => ?_)
                          exact hq _ _ _ h1 h2
          · have h1 := h1.2 c
            have h2 := h2.2 c
            refine and_X12_number h1 h2 (fun r37 I33 L34 h1 h2 => ?_)
            exact hq _ _ _ h1 h2
        · have h1 := h1.2 c
          have h2 := h2.2 c
          intro I63 eI63
          have h1 := h1 I63 eI63
          have h2 := h2 I63 eI63
          refine hF _ _ _ _ _ _ _ _ _ h1 h2 (fun r70 I66 L67 h1 h2 => ?_)
          refine and_X12_need h1 h2 (fun I73 L74 h1 h2 => ?_)
          exact hq _ _ _ h1 h2
    · have h1 := h1.2 c
      have h2 := h2.2 c
      exact hq _ _ _ h1 h2
  · have h1 := h1.2 c
    have h2 := h2.2 c
    refine hF _ _ _ _ _ _ _ _ _ h1 h2 (fun r83 I79 L80 h1 h2 => ?_)
    exact hq _ _ _ h1 h2
theorem an12 : ∀ d, AN12 (fR12 d) := by
  intro d
  induction d with
  | zero => intro w v0 v1 Z I L Q1 Q2 Q3 h1; exact h1.elim
  | succ d ih =>
    intro w v0 v1 Z I L Q1 Q2 Q3 h1 h2 hq
    match w with
    | 0 => exact and_X12_held ih h1 h2 hq
    | 1 => exact and_X12_sum ih h1 h2 hq
    | 2 => exact and_X12_product ih h1 h2 hq
    | _ + 3 => exact and_X12_thing ih h1 h2 hq
set_option maxHeartbeats 4000000 in
theorem and_X12_lawOf {B : Nat × Nat} {v0 : Nat} {v1 : Int32} {v2 : Int32} {v3 : Int32} {v4 : Int32} {v5 : Int32} {Z : jZ} {I : jI} {L : jL} {Q1 Q2 Q3 : Int32 → jZ → jI → jL → Prop} (h1 : f_X12_lawOf B v0 v1 v2 v3 v4 v5 Z I L Q1) (h2 : f_X12_lawOf B v0 v1 v2 v3 v4 v5 Z I L Q2) (hq : ∀ (x0 : Int32) (x1 : jZ) (x2 : jI) (x3 : jL), Q1 x0 x1 x2 x3 → Q2 x0 x1 x2 x3 → Q3 x0 x1 x2 x3) : f_X12_lawOf B v0 v1 v2 v3 v4 v5 Z I L Q3 := by
  unfold f_X12_lawOf at h1 h2 ⊢
  intro b1 eb1
  have h1 := h1 b1 eb1
  have h2 := h2 b1 eb1
  refine ⟨h1.1, ?_⟩
  have h1 := h1.2
  have h2 := h2.2
  refine ⟨fun c => ?_, fun c => ?_⟩
  · have h1 := h1.1 c
    have h2 := h2.1 c
    intro b4 eb4
    have h1 := h1 b4 eb4
    have h2 := h2 b4 eb4
    refine ⟨h1.1, ?_⟩
    have h1 := h1.2
    have h2 := h2.2
    intro b6 eb6
    have h1 := h1 b6 eb6
    have h2 := h2 b6 eb6
    intro b7 eb7
    have h1 := h1 b7 eb7
    have h2 := h2 b7 eb7
    refine ⟨h1.1, ?_⟩
    have h1 := h1.2
    have h2 := h2.2
    refine and_X12_begin h1 h2 (fun Z10 I11 L12 h1 h2 => ?_)
    intro I16 eI16
    have h1 := h1 I16 eI16
    have h2 := h2 I16 eI16
    intro I17 eI17
    have h1 := h1 I17 eI17
    have h2 := h2 I17 eI17
    intro I18 eI18
    have h1 := h1 I18 eI18
    have h2 := h2 I18 eI18
    intro I19 eI19
    have h1 := h1 I19 eI19
    have h2 := h2 I19 eI19
    refine an12 100 _ _ _ _ _ _ _ _ _ h1 h2 (fun r26 I22 L23 h1 h2 => ?_)
    exact hq _ _ _ _ h1 h2
  · have h1 := h1.2 c
    have h2 := h2.2 c
    refine ⟨fun c => ?_, fun c => ?_⟩
    · have h1 := h1.1 c
      have h2 := h2.1 c
      unfold f_X12_lawOf_b23 at h1 h2 ⊢
      exact hq _ _ _ _ h1 h2
    · have h1 := h1.2 c
      have h2 := h2.2 c
      intro b28 eb28
      have h1 := h1 b28 eb28
      have h2 := h2 b28 eb28
      refine ⟨h1.1, ?_⟩
      have h1 := h1.2
      have h2 := h2.2
      refine ⟨fun c => ?_, fun c => ?_⟩
      · have h1 := h1.1 c
        have h2 := h2.1 c
        intro b31 eb31
        have h1 := h1 b31 eb31
        have h2 := h2 b31 eb31
        refine ⟨h1.1, ?_⟩
        have h1 := h1.2
        have h2 := h2.2
        exact hq _ _ _ _ h1 h2
      · have h1 := h1.2 c
        have h2 := h2.2 c
        unfold f_X12_lawOf_b23 at h1 h2 ⊢
        exact hq _ _ _ _ h1 h2
set_option maxHeartbeats 4000000 in
theorem and_X12_costOf_L29 {B : Nat × Nat} {Q1 Q2 Q3 : Int32 → jZ → jI → jL → Prop} (hq : ∀ (x0 : Int32) (x1 : jZ) (x2 : jI) (x3 : jL), Q1 x0 x1 x2 x3 → Q2 x0 x1 x2 x3 → Q3 x0 x1 x2 x3) : ∀ (n m : Nat) (v0 : Nat) (v1 : Int32) (v2 : Int32) (v3 : Int32) (v4 : Int32) (v5 : Int32) (v6 : Int32) (Z : jZ) (I : jI) (L : jL), f_X12_costOf_L29 B Q1 n v0 v1 v2 v3 v4 v5 v6 Z I L → f_X12_costOf_L29 B Q2 m v0 v1 v2 v3 v4 v5 v6 Z I L → f_X12_costOf_L29 B Q3 n v0 v1 v2 v3 v4 v5 v6 Z I L := by
  intro n
  induction n with
  | zero => intro m v0 v1 v2 v3 v4 v5 v6 Z I L h1 h2; exact h1.elim
  | succ n ih =>
    intro m v0 v1 v2 v3 v4 v5 v6 Z I L h1 h2
    cases m with
    | zero => exact h2.elim
    | succ m =>
      unfold f_X12_costOf_L29 at h1 h2 ⊢
      refine ⟨fun c => ?_, fun c => ?_⟩
      · have h1 := h1.1 c
        have h2 := h2.1 c
        exact hq _ _ _ _ h1 h2
      · have h1 := h1.2 c
        have h2 := h2.2 c
        intro b2 eb2
        have h1 := h1 b2 eb2
        have h2 := h2 b2 eb2
        refine ⟨h1.1, ?_⟩
        have h1 := h1.2
        have h2 := h2.2
        refine and_X12_lawOf h1 h2 (fun r10 Z5 I6 L7 h1 h2 => ?_)
        intro x12 ex12
        have h1 := h1 x12 ex12
        have h2 := h2 x12 ex12
        intro x13 ex13
        have h1 := h1 x13 ex13
        have h2 := h2 x13 ex13
        exact ih _ _ _ _ _ _ _ _ _ _ _ h1 h2
set_option maxHeartbeats 4000000 in
theorem and_X12_costOf {B : Nat × Nat} {v0 : Nat} {v1 : Int32} {v2 : Int32} {v3 : Int32} {Z : jZ} {I : jI} {L : jL} {Q1 Q2 Q3 : Int32 → jZ → jI → jL → Prop} (h1 : f_X12_costOf B v0 v1 v2 v3 Z I L Q1) (h2 : f_X12_costOf B v0 v1 v2 v3 Z I L Q2) (hq : ∀ (x0 : Int32) (x1 : jZ) (x2 : jI) (x3 : jL), Q1 x0 x1 x2 x3 → Q2 x0 x1 x2 x3 → Q3 x0 x1 x2 x3) : f_X12_costOf B v0 v1 v2 v3 Z I L Q3 := by
  unfold f_X12_costOf at h1 h2 ⊢
  intro x14 ex14
  have h1 := h1 x14 ex14
  have h2 := h2 x14 ex14
  intro b15 eb15
  have h1 := h1 b15 eb15
  have h2 := h2 b15 eb15
  refine ⟨h1.1, ?_⟩
  have h1 := h1.2
  have h2 := h2.2
  refine and_X12_lawOf h1 h2 (fun r23 Z18 I19 L20 h1 h2 => ?_)
  intro x25 ex25
  have h1 := h1 x25 ex25
  have h2 := h2 x25 ex25
  obtain ⟨n1, h1⟩ := h1
  obtain ⟨n2, h2⟩ := h2
  exact ⟨n1, and_X12_costOf_L29  hq n1 n2 _ _ _ _ _ _ _ _ _ _ h1 h2⟩
set_option maxHeartbeats 4000000 in
theorem and_X12_effortOf_L8 {Z : jZ} {Q1 Q2 Q3 : Int32 → jI → jL → Prop} (hq : ∀ (x0 : Int32) (x1 : jI) (x2 : jL), Q1 x0 x1 x2 → Q2 x0 x1 x2 → Q3 x0 x1 x2) : ∀ (n m : Nat) (v0 : Nat) (v1 : Int32) (v2 : Int32) (v3 : Int32) (v4 : Int32) (v5 : Int32) (I : jI) (L : jL), f_X12_effortOf_L8 Z Q1 n v0 v1 v2 v3 v4 v5 I L → f_X12_effortOf_L8 Z Q2 m v0 v1 v2 v3 v4 v5 I L → f_X12_effortOf_L8 Z Q3 n v0 v1 v2 v3 v4 v5 I L := by
  intro n
  induction n with
  | zero => intro m v0 v1 v2 v3 v4 v5 I L h1 h2; exact h1.elim
  | succ n ih =>
    intro m v0 v1 v2 v3 v4 v5 I L h1 h2
    cases m with
    | zero => exact h2.elim
    | succ m =>
      unfold f_X12_effortOf_L8 at h1 h2 ⊢
      refine ⟨fun c => ?_, fun c => ?_⟩
      · have h1 := h1.1 c
        have h2 := h2.1 c
        intro b2 eb2
        have h1 := h1 b2 eb2
        have h2 := h2 b2 eb2
        refine ⟨h1.1, ?_⟩
        have h1 := h1.2
        have h2 := h2.2
        intro b4 eb4
        have h1 := h1 b4 eb4
        have h2 := h2 b4 eb4
        refine ⟨h1.1, ?_⟩
        have h1 := h1.2
        have h2 := h2.2
        exact hq _ _ _ h1 h2
      · have h1 := h1.2 c
        have h2 := h2.2 c
        intro b6 eb6
        have h1 := h1 b6 eb6
        have h2 := h2 b6 eb6
        refine ⟨h1.1, ?_⟩
        have h1 := h1.2
        have h2 := h2.2
        intro x8 ex8
        have h1 := h1 x8 ex8
        have h2 := h2 x8 ex8
        intro x9 ex9
        have h1 := h1 x9 ex9
        have h2 := h2 x9 ex9
        exact ih _ _ _ _ _ _ _ _ _ h1 h2
set_option maxHeartbeats 4000000 in
theorem and_X12_effortOf {v0 : Nat} {v1 : Int32} {v2 : Int32} {v3 : Int32} {Z : jZ} {I : jI} {L : jL} {Q1 Q2 Q3 : Int32 → jI → jL → Prop} (h1 : f_X12_effortOf v0 v1 v2 v3 Z I L Q1) (h2 : f_X12_effortOf v0 v1 v2 v3 Z I L Q2) (hq : ∀ (x0 : Int32) (x1 : jI) (x2 : jL), Q1 x0 x1 x2 → Q2 x0 x1 x2 → Q3 x0 x1 x2) : f_X12_effortOf v0 v1 v2 v3 Z I L Q3 := by
  unfold f_X12_effortOf at h1 h2 ⊢
  intro x10 ex10
  have h1 := h1 x10 ex10
  have h2 := h2 x10 ex10
  obtain ⟨n1, h1⟩ := h1
  obtain ⟨n2, h2⟩ := h2
  exact ⟨n1, and_X12_effortOf_L8  hq n1 n2 _ _ _ _ _ _ _ _ h1 h2⟩
set_option maxHeartbeats 4000000 in
theorem and_X12_layMoves_L12 {B : Nat × Nat} {K2 K2b K2c : Nat → Int32 → Int32 → jZ → jI → jL → Prop} {Q1 Q2 Q3 : jZ → jI → jL → Prop} (hK2 : ∀ (x0 : Nat) (x1 : Int32) (x2 : Int32) (x3 : jZ) (x4 : jI) (x5 : jL), K2 x0 x1 x2 x3 x4 x5 → K2b x0 x1 x2 x3 x4 x5 → K2c x0 x1 x2 x3 x4 x5) (hq : ∀ (x0 : jZ) (x1 : jI) (x2 : jL), Q1 x0 x1 x2 → Q2 x0 x1 x2 → Q3 x0 x1 x2) : ∀ (n m : Nat) (v0 : Nat) (v1 : Int32) (v2 : Int32) (v3 : Int32) (Z : jZ) (I : jI) (L : jL), f_X12_layMoves_L12 B K2 Q1 n v0 v1 v2 v3 Z I L → f_X12_layMoves_L12 B K2b Q2 m v0 v1 v2 v3 Z I L → f_X12_layMoves_L12 B K2c Q3 n v0 v1 v2 v3 Z I L := by
  intro n
  induction n with
  | zero => intro m v0 v1 v2 v3 Z I L h1 h2; exact h1.elim
  | succ n ih =>
    intro m v0 v1 v2 v3 Z I L h1 h2
    cases m with
    | zero => exact h2.elim
    | succ m =>
      unfold f_X12_layMoves_L12 at h1 h2 ⊢
      refine ⟨fun c => ?_, fun c => ?_⟩
      · have h1 := h1.1 c
        have h2 := h2.1 c
        intro x3 ex3
        have h1 := h1 x3 ex3
        have h2 := h2 x3 ex3
        exact hK2 _ _ _ _ _ _ h1 h2
      · have h1 := h1.2 c
        have h2 := h2.2 c
        intro x4 ex4
        have h1 := h1 x4 ex4
        have h2 := h2 x4 ex4
        intro x5 ex5
        have h1 := h1 x5 ex5
        have h2 := h2 x5 ex5
        intro b6 eb6
        have h1 := h1 b6 eb6
        have h2 := h2 b6 eb6
        refine ⟨h1.1, ?_⟩
        have h1 := h1.2
        have h2 := h2.2
        intro I8 eI8
        have h1 := h1 I8 eI8
        have h2 := h2 I8 eI8
        intro b9 eb9
        have h1 := h1 b9 eb9
        have h2 := h2 b9 eb9
        refine ⟨h1.1, ?_⟩
        have h1 := h1.2
        have h2 := h2.2
        refine ⟨fun c => ?_, fun c => ?_⟩
        · have h1 := h1.1 c
          have h2 := h2.1 c
          unfold f_X12_layMoves_b122 at h1 h2 ⊢
          intro x1 ex1
          have h1 := h1 x1 ex1
          have h2 := h2 x1 ex1
          exact ih _ _ _ _ _ _ _ _ h1 h2
        · have h1 := h1.2 c
          have h2 := h2.2 c
          refine ⟨fun c => ?_, fun c => ?_⟩
          · have h1 := h1.1 c
            have h2 := h2.1 c
            unfold f_X12_layMoves_b122 at h1 h2 ⊢
            intro x1 ex1
            have h1 := h1 x1 ex1
            have h2 := h2 x1 ex1
            exact ih _ _ _ _ _ _ _ _ h1 h2
          · have h1 := h1.2 c
            have h2 := h2.2 c
            refine ⟨fun c => ?_, fun c => ?_⟩
            · have h1 := h1.1 c
              have h2 := h2.1 c
              unfold f_X12_layMoves_b122 at h1 h2 ⊢
              intro x1 ex1
              have h1 := h1 x1 ex1
              have h2 := h2 x1 ex1
              exact ih _ _ _ _ _ _ _ _ h1 h2
            · have h1 := h1.2 c
              have h2 := h2.2 c
              intro b14 eb14
              have h1 := h1 b14 eb14
              have h2 := h2 b14 eb14
              refine ⟨h1.1, ?_⟩
              have h1 := h1.2
              have h2 := h2.2
              refine and_X12_mainOf h1 h2 (fun r22 I18 L19 h1 h2 => ?_)
              refine and_X12_has h1 h2 (fun r29 I25 L26 h1 h2 => ?_)
              refine ⟨fun c => ?_, fun c => ?_⟩
              · have h1 := h1.1 c
                have h2 := h2.1 c
                intro b31 eb31
                have h1 := h1 b31 eb31
                have h2 := h2 b31 eb31
                refine and_X12_costOf h1 h2 (fun r38 Z33 I34 L35 h1 h2 => ?_)
                refine ⟨h1.1, ?_⟩
                have h1 := h1.2
                have h2 := h2.2
                intro I43 eI43
                have h1 := h1 I43 eI43
                have h2 := h2 I43 eI43
                intro b44 eb44
                have h1 := h1 b44 eb44
                have h2 := h2 b44 eb44
                refine and_X12_effortOf h1 h2 (fun r51 I47 L48 h1 h2 => ?_)
                refine ⟨h1.1, ?_⟩
                have h1 := h1.2
                have h2 := h2.2
                intro I53 eI53
                have h1 := h1 I53 eI53
                have h2 := h2 I53 eI53
                unfold f_X12_layMoves_b122 at h1 h2 ⊢
                intro x1 ex1
                have h1 := h1 x1 ex1
                have h2 := h2 x1 ex1
                exact ih _ _ _ _ _ _ _ _ h1 h2
              · have h1 := h1.2 c
                have h2 := h2.2 c
                unfold f_X12_layMoves_b122 at h1 h2 ⊢
                intro x1 ex1
                have h1 := h1 x1 ex1
                have h2 := h2 x1 ex1
                exact ih _ _ _ _ _ _ _ _ h1 h2
set_option maxHeartbeats 4000000 in
theorem and_X12_layMoves_L2 {B : Nat × Nat} {Q1 Q2 Q3 : jZ → jI → jL → Prop} (hq : ∀ (x0 : jZ) (x1 : jI) (x2 : jL), Q1 x0 x1 x2 → Q2 x0 x1 x2 → Q3 x0 x1 x2) : ∀ (n m : Nat) (v0 : Nat) (v1 : Int32) (v2 : Int32) (Z : jZ) (I : jI) (L : jL), f_X12_layMoves_L2 B Q1 n v0 v1 v2 Z I L → f_X12_layMoves_L2 B Q2 m v0 v1 v2 Z I L → f_X12_layMoves_L2 B Q3 n v0 v1 v2 Z I L := by
  intro n
  induction n with
  | zero => intro m v0 v1 v2 Z I L h1 h2; exact h1.elim
  | succ n ih =>
    intro m v0 v1 v2 Z I L h1 h2
    cases m with
    | zero => exact h2.elim
    | succ m =>
      unfold f_X12_layMoves_L2 at h1 h2 ⊢
      refine ⟨fun c => ?_, fun c => ?_⟩
      · have h1 := h1.1 c
        have h2 := h2.1 c
        exact hq _ _ _ h1 h2
      · have h1 := h1.2 c
        have h2 := h2.2 c
        obtain ⟨n1, h1⟩ := h1
        obtain ⟨n2, h2⟩ := h2
        exact ⟨n1, and_X12_layMoves_L12 (fun _ _ _ _ _ _ a b => ih _ _ _ _ _ _ _ a b) hq n1 n2 _ _ _ _ _ _ _ h1 h2⟩
set_option maxHeartbeats 4000000 in
theorem and_X12_layMoves {B : Nat × Nat} {v0 : Nat} {v1 : Int32} {Z : jZ} {I : jI} {L : jL} {Q1 Q2 Q3 : jZ → jI → jL → Prop} (h1 : f_X12_layMoves B v0 v1 Z I L Q1) (h2 : f_X12_layMoves B v0 v1 Z I L Q2) (hq : ∀ (x0 : jZ) (x1 : jI) (x2 : jL), Q1 x0 x1 x2 → Q2 x0 x1 x2 → Q3 x0 x1 x2) : f_X12_layMoves B v0 v1 Z I L Q3 := by
  unfold f_X12_layMoves at h1 h2 ⊢
  obtain ⟨n1, h1⟩ := h1
  obtain ⟨n2, h2⟩ := h2
  exact ⟨n1, and_X12_layMoves_L2  hq n1 n2 _ _ _ _ _ _ h1 h2⟩
set_option maxHeartbeats 4000000 in
theorem and_X12_findByEffort_L45 {Z : jZ} {K7 K7b K7c : Nat → Int32 → Int32 → jI → jL → Prop} {K14 K14b K14c : Nat → Int32 → Int32 → Int32 → jI → jL → Prop} {Q1 Q2 Q3 : jI → jL → Prop} (hK7 : ∀ (x0 : Nat) (x1 : Int32) (x2 : Int32) (x3 : jI) (x4 : jL), K7 x0 x1 x2 x3 x4 → K7b x0 x1 x2 x3 x4 → K7c x0 x1 x2 x3 x4) (hK14 : ∀ (x0 : Nat) (x1 : Int32) (x2 : Int32) (x3 : Int32) (x4 : jI) (x5 : jL), K14 x0 x1 x2 x3 x4 x5 → K14b x0 x1 x2 x3 x4 x5 → K14c x0 x1 x2 x3 x4 x5) (hq : ∀ (x0 : jI) (x1 : jL), Q1 x0 x1 → Q2 x0 x1 → Q3 x0 x1) : ∀ (n m : Nat) (v0 : Nat) (v1 : Int32) (v2 : Int32) (v3 : Int32) (v4 : Int32) (v5 : Int32) (I : jI) (L : jL), f_X12_findByEffort_L45 K7 K14 Z Q1 n v0 v1 v2 v3 v4 v5 I L → f_X12_findByEffort_L45 K7b K14b Z Q2 m v0 v1 v2 v3 v4 v5 I L → f_X12_findByEffort_L45 K7c K14c Z Q3 n v0 v1 v2 v3 v4 v5 I L := by
  intro n
  induction n with
  | zero => intro m v0 v1 v2 v3 v4 v5 I L h1 h2; exact h1.elim
  | succ n ih =>
    intro m v0 v1 v2 v3 v4 v5 I L h1 h2
    cases m with
    | zero => exact h2.elim
    | succ m =>
      unfold f_X12_findByEffort_L45 at h1 h2 ⊢
      refine ⟨fun c => ?_, fun c => ?_⟩
      · have h1 := h1.1 c
        have h2 := h2.1 c
        intro b3 eb3
        have h1 := h1 b3 eb3
        have h2 := h2 b3 eb3
        refine ⟨h1.1, ?_⟩
        have h1 := h1.2
        have h2 := h2.2
        intro I5 eI5
        have h1 := h1 I5 eI5
        have h2 := h2 I5 eI5
        intro x6 ex6
        have h1 := h1 x6 ex6
        have h2 := h2 x6 ex6
        exact hK14 _ _ _ _ _ _ h1 h2
      · have h1 := h1.2 c
        have h2 := h2.2 c
        intro x7 ex7
        have h1 := h1 x7 ex7
        have h2 := h2 x7 ex7
        intro b8 eb8
        have h1 := h1 b8 eb8
        have h2 := h2 b8 eb8
        refine ⟨h1.1, ?_⟩
        have h1 := h1.2
        have h2 := h2.2
        refine ⟨fun c => ?_, fun c => ?_⟩
        · have h1 := h1.1 c
          have h2 := h2.1 c
          unfold f_X12_findByEffort_b147 at h1 h2 ⊢
          intro x1 ex1
          have h1 := h1 x1 ex1
          have h2 := h2 x1 ex1
          exact ih _ _ _ _ _ _ _ _ _ h1 h2
        · have h1 := h1.2 c
          have h2 := h2.2 c
          intro b11 eb11
          have h1 := h1 b11 eb11
          have h2 := h2 b11 eb11
          refine ⟨h1.1, ?_⟩
          have h1 := h1.2
          have h2 := h2.2
          refine ⟨fun c => ?_, fun c => ?_⟩
          · have h1 := h1.1 c
            have h2 := h2.1 c
            intro b14 eb14
            have h1 := h1 b14 eb14
            have h2 := h2 b14 eb14
            intro b15 eb15
            have h1 := h1 b15 eb15
            have h2 := h2 b15 eb15
            refine ⟨h1.1, ?_⟩
            have h1 := h1.2
            have h2 := h2.2
            refine ⟨h1.1, ?_⟩
            have h1 := h1.2
            have h2 := h2.2
            intro x18 ex18
            have h1 := h1 x18 ex18
            have h2 := h2 x18 ex18
            refine ⟨fun c => ?_, fun c => ?_⟩
            · have h1 := h1.1 c
              have h2 := h2.1 c
              unfold f_X12_findByEffort_b147 at h1 h2 ⊢
              intro x1 ex1
              have h1 := h1 x1 ex1
              have h2 := h2 x1 ex1
              exact ih _ _ _ _ _ _ _ _ _ h1 h2
            · have h1 := h1.2 c
              have h2 := h2.2 c
              intro b20 eb20
              have h1 := h1 b20 eb20
              have h2 := h2 b20 eb20
              refine ⟨h1.1, ?_⟩
              have h1 := h1.2
              have h2 := h2.2
              intro x22 ex22
              have h1 := h1 x22 ex22
              have h2 := h2 x22 ex22
              unfold f_X12_findByEffort_b147 at h1 h2 ⊢
              intro x1 ex1
              have h1 := h1 x1 ex1
              have h2 := h2 x1 ex1
              exact ih _ _ _ _ _ _ _ _ _ h1 h2
          · have h1 := h1.2 c
            have h2 := h2.2 c
            unfold f_X12_findByEffort_b147 at h1 h2 ⊢
            intro x1 ex1
            have h1 := h1 x1 ex1
            have h2 := h2 x1 ex1
            exact ih _ _ _ _ _ _ _ _ _ h1 h2
set_option maxHeartbeats 4000000 in
theorem and_X12_findByEffort_L14 {Z : jZ} {K7 K7b K7c : Nat → Int32 → Int32 → jI → jL → Prop} {Q1 Q2 Q3 : jI → jL → Prop} (hK7 : ∀ (x0 : Nat) (x1 : Int32) (x2 : Int32) (x3 : jI) (x4 : jL), K7 x0 x1 x2 x3 x4 → K7b x0 x1 x2 x3 x4 → K7c x0 x1 x2 x3 x4) (hq : ∀ (x0 : jI) (x1 : jL), Q1 x0 x1 → Q2 x0 x1 → Q3 x0 x1) : ∀ (n m : Nat) (v0 : Nat) (v1 : Int32) (v2 : Int32) (v3 : Int32) (I : jI) (L : jL), f_X12_findByEffort_L14 K7 Z Q1 n v0 v1 v2 v3 I L → f_X12_findByEffort_L14 K7b Z Q2 m v0 v1 v2 v3 I L → f_X12_findByEffort_L14 K7c Z Q3 n v0 v1 v2 v3 I L := by
  intro n
  induction n with
  | zero => intro m v0 v1 v2 v3 I L h1 h2; exact h1.elim
  | succ n ih =>
    intro m v0 v1 v2 v3 I L h1 h2
    cases m with
    | zero => exact h2.elim
    | succ m =>
      unfold f_X12_findByEffort_L14 at h1 h2 ⊢
      refine ⟨fun c => ?_, fun c => ?_⟩
      · have h1 := h1.1 c
        have h2 := h2.1 c
        intro x25 ex25
        have h1 := h1 x25 ex25
        have h2 := h2 x25 ex25
        exact hK7 _ _ _ _ _ h1 h2
      · have h1 := h1.2 c
        have h2 := h2.2 c
        refine ⟨fun c => ?_, fun c => ?_⟩
        · have h1 := h1.1 c
          have h2 := h2.1 c
          unfold f_X12_findByEffort_b37 at h1 h2 ⊢
          unfold f_X12_findByEffort_b40 at h1 h2 ⊢
          obtain ⟨n1, h1⟩ := h1
          obtain ⟨n2, h2⟩ := h2
          exact ⟨n1, and_X12_findByEffort_L45 hK7 (fun _ _ _ _ _ _ a b => ih _ _ _ _ _ _ _ a b) hq n1 n2 _ _ _ _ _ _ _ _ h1 h2⟩
        · have h1 := h1.2 c
          have h2 := h2.2 c
          refine ⟨fun c => ?_, fun c => ?_⟩
          · have h1 := h1.1 c
            have h2 := h2.1 c
            unfold f_X12_findByEffort_b37 at h1 h2 ⊢
            unfold f_X12_findByEffort_b40 at h1 h2 ⊢
            obtain ⟨n1, h1⟩ := h1
            obtain ⟨n2, h2⟩ := h2
            exact ⟨n1, and_X12_findByEffort_L45 hK7 (fun _ _ _ _ _ _ a b => ih _ _ _ _ _ _ _ a b) hq n1 n2 _ _ _ _ _ _ _ _ h1 h2⟩
          · have h1 := h1.2 c
            have h2 := h2.2 c
            unfold f_X12_findByEffort_b40 at h1 h2 ⊢
            obtain ⟨n1, h1⟩ := h1
            obtain ⟨n2, h2⟩ := h2
            exact ⟨n1, and_X12_findByEffort_L45 hK7 (fun _ _ _ _ _ _ a b => ih _ _ _ _ _ _ _ a b) hq n1 n2 _ _ _ _ _ _ _ _ h1 h2⟩
set_option maxHeartbeats 4000000 in
theorem and_X12_findByEffort_L7 {Z : jZ} {Q1 Q2 Q3 : jI → jL → Prop} (hq : ∀ (x0 : jI) (x1 : jL), Q1 x0 x1 → Q2 x0 x1 → Q3 x0 x1) : ∀ (n m : Nat) (v0 : Nat) (v1 : Int32) (v2 : Int32) (I : jI) (L : jL), f_X12_findByEffort_L7 Z Q1 n v0 v1 v2 I L → f_X12_findByEffort_L7 Z Q2 m v0 v1 v2 I L → f_X12_findByEffort_L7 Z Q3 n v0 v1 v2 I L := by
  intro n
  induction n with
  | zero => intro m v0 v1 v2 I L h1 h2; exact h1.elim
  | succ n ih =>
    intro m v0 v1 v2 I L h1 h2
    cases m with
    | zero => exact h2.elim
    | succ m =>
      unfold f_X12_findByEffort_L7 at h1 h2 ⊢
      refine ⟨fun c => ?_, fun c => ?_⟩
      · have h1 := h1.1 c
        have h2 := h2.1 c
        exact hq _ _ h1 h2
      · have h1 := h1.2 c
        have h2 := h2.2 c
        obtain ⟨n1, h1⟩ := h1
        obtain ⟨n2, h2⟩ := h2
        exact ⟨n1, and_X12_findByEffort_L14 (fun _ _ _ _ _ a b => ih _ _ _ _ _ _ a b) hq n1 n2 _ _ _ _ _ _ h1 h2⟩
set_option maxHeartbeats 4000000 in
theorem and_X12_findByEffort {v0 : Nat} {v1 : Int32} {Z : jZ} {I : jI} {L : jL} {Q1 Q2 Q3 : jI → jL → Prop} (h1 : f_X12_findByEffort v0 v1 Z I L Q1) (h2 : f_X12_findByEffort v0 v1 Z I L Q2) (hq : ∀ (x0 : jI) (x1 : jL), Q1 x0 x1 → Q2 x0 x1 → Q3 x0 x1) : f_X12_findByEffort v0 v1 Z I L Q3 := by
  unfold f_X12_findByEffort at h1 h2 ⊢
  intro x30 ex30
  have h1 := h1 x30 ex30
  have h2 := h2 x30 ex30
  obtain ⟨n1, h1⟩ := h1
  obtain ⟨n2, h2⟩ := h2
  exact ⟨n1, and_X12_findByEffort_L7  hq n1 n2 _ _ _ _ _ h1 h2⟩
set_option maxHeartbeats 4000000 in
theorem and_X12_isOn {v0 : Nat} {v1 : Int32} {v2 : Int32} {v3 : Int32} {Z : jZ} {I : jI} {L : jL} {Q1 Q2 Q3 : Int32 → jI → jL → Prop} (h1 : f_X12_isOn v0 v1 v2 v3 Z I L Q1) (h2 : f_X12_isOn v0 v1 v2 v3 Z I L Q2) (hq : ∀ (x0 : Int32) (x1 : jI) (x2 : jL), Q1 x0 x1 x2 → Q2 x0 x1 x2 → Q3 x0 x1 x2) : f_X12_isOn v0 v1 v2 v3 Z I L Q3 := by
  unfold f_X12_isOn at h1 h2 ⊢
  intro x1 ex1
  have h1 := h1 x1 ex1
  have h2 := h2 x1 ex1
  intro b2 eb2
  have h1 := h1 b2 eb2
  have h2 := h2 b2 eb2
  refine ⟨h1.1, ?_⟩
  have h1 := h1.2
  have h2 := h2.2
  refine ⟨fun c => ?_, fun c => ?_⟩
  · have h1 := h1.1 c
    have h2 := h2.1 c
    exact hq _ _ _ h1 h2
  · have h1 := h1.2 c
    have h2 := h2.2 c
    intro b5 eb5
    have h1 := h1 b5 eb5
    have h2 := h2 b5 eb5
    refine ⟨h1.1, ?_⟩
    have h1 := h1.2
    have h2 := h2.2
    refine ⟨fun c => ?_, fun c => ?_⟩
    · have h1 := h1.1 c
      have h2 := h2.1 c
      intro b8 eb8
      have h1 := h1 b8 eb8
      have h2 := h2 b8 eb8
      intro b9 eb9
      have h1 := h1 b9 eb9
      have h2 := h2 b9 eb9
      refine ⟨h1.1, ?_⟩
      have h1 := h1.2
      have h2 := h2.2
      refine ⟨h1.1, ?_⟩
      have h1 := h1.2
      have h2 := h2.2
      intro x12 ex12
      have h1 := h1 x12 ex12
      have h2 := h2 x12 ex12
      refine ⟨fun c => ?_, fun c => ?_⟩
      · have h1 := h1.1 c
        have h2 := h2.1 c
        exact hq _ _ _ h1 h2
      · have h1 := h1.2 c
        have h2 := h2.2 c
        intro b14 eb14
        have h1 := h1 b14 eb14
        have h2 := h2 b14 eb14
        refine ⟨h1.1, ?_⟩
        have h1 := h1.2
        have h2 := h2.2
        intro b16 eb16
        have h1 := h1 b16 eb16
        have h2 := h2 b16 eb16
        refine ⟨h1.1, ?_⟩
        have h1 := h1.2
        have h2 := h2.2
        refine ⟨fun c => ?_, fun c => ?_⟩
        · have h1 := h1.1 c
          have h2 := h2.1 c
          exact hq _ _ _ h1 h2
        · have h1 := h1.2 c
          have h2 := h2.2 c
          exact hq _ _ _ h1 h2
    · have h1 := h1.2 c
      have h2 := h2.2 c
      exact hq _ _ _ h1 h2
set_option maxHeartbeats 4000000 in
theorem and_X12_findClimb_L144 {B : Nat × Nat} {K131 K131b K131c : Nat → Int32 → Int32 → jZ → jI → jL → Prop} {Q1 Q2 Q3 : Int32 → jZ → jI → jL → Prop} (hK131 : ∀ (x0 : Nat) (x1 : Int32) (x2 : Int32) (x3 : jZ) (x4 : jI) (x5 : jL), K131 x0 x1 x2 x3 x4 x5 → K131b x0 x1 x2 x3 x4 x5 → K131c x0 x1 x2 x3 x4 x5) (hq : ∀ (x0 : Int32) (x1 : jZ) (x2 : jI) (x3 : jL), Q1 x0 x1 x2 x3 → Q2 x0 x1 x2 x3 → Q3 x0 x1 x2 x3) : ∀ (n m : Nat) (v0 : Nat) (v3 : Int32) (v4 : Int32) (v5 : Int32) (Z : jZ) (I : jI) (L : jL), f_X12_findClimb_L144 B K131 Q1 n v0 v3 v4 v5 Z I L → f_X12_findClimb_L144 B K131b Q2 m v0 v3 v4 v5 Z I L → f_X12_findClimb_L144 B K131c Q3 n v0 v3 v4 v5 Z I L := by
  intro n
  induction n with
  | zero => intro m v0 v3 v4 v5 Z I L h1 h2; exact h1.elim
  | succ n ih =>
    intro m v0 v3 v4 v5 Z I L h1 h2
    cases m with
    | zero => exact h2.elim
    | succ m =>
      unfold f_X12_findClimb_L144 at h1 h2 ⊢
      refine and_X12_isOn h1 h2 (fun r7 I3 L4 h1 h2 => ?_)
      refine ⟨fun c => ?_, fun c => ?_⟩
      · have h1 := h1.1 c
        have h2 := h2.1 c
        intro b9 eb9
        have h1 := h1 b9 eb9
        have h2 := h2 b9 eb9
        refine ⟨h1.1, ?_⟩
        have h1 := h1.2
        have h2 := h2.2
        intro x11 ex11
        have h1 := h1 x11 ex11
        have h2 := h2 x11 ex11
        intro x12 ex12
        have h1 := h1 x12 ex12
        have h2 := h2 x12 ex12
        intro b13 eb13
        have h1 := h1 b13 eb13
        have h2 := h2 b13 eb13
        refine ⟨h1.1, ?_⟩
        have h1 := h1.2
        have h2 := h2.2
        intro I15 eI15
        have h1 := h1 I15 eI15
        have h2 := h2 I15 eI15
        intro I16 eI16
        have h1 := h1 I16 eI16
        have h2 := h2 I16 eI16
        exact hK131 _ _ _ _ _ _ h1 h2
      · have h1 := h1.2 c
        have h2 := h2.2 c
        intro x17 ex17
        have h1 := h1 x17 ex17
        have h2 := h2 x17 ex17
        exact ih _ _ _ _ _ _ _ _ h1 h2
set_option maxHeartbeats 4000000 in
theorem and_X12_findClimb_L131 {B : Nat × Nat} {Q1 Q2 Q3 : Int32 → jZ → jI → jL → Prop} (hq : ∀ (x0 : Int32) (x1 : jZ) (x2 : jI) (x3 : jL), Q1 x0 x1 x2 x3 → Q2 x0 x1 x2 x3 → Q3 x0 x1 x2 x3) : ∀ (n m : Nat) (v0 : Nat) (v3 : Int32) (v4 : Int32) (Z : jZ) (I : jI) (L : jL), f_X12_findClimb_L131 B Q1 n v0 v3 v4 Z I L → f_X12_findClimb_L131 B Q2 m v0 v3 v4 Z I L → f_X12_findClimb_L131 B Q3 n v0 v3 v4 Z I L := by
  intro n
  induction n with
  | zero => intro m v0 v3 v4 Z I L h1 h2; exact h1.elim
  | succ n ih =>
    intro m v0 v3 v4 Z I L h1 h2
    cases m with
    | zero => exact h2.elim
    | succ m =>
      unfold f_X12_findClimb_L131 at h1 h2 ⊢
      refine ⟨fun c => ?_, fun c => ?_⟩
      · have h1 := h1.1 c
        have h2 := h2.1 c
        exact hq _ _ _ _ h1 h2
      · have h1 := h1.2 c
        have h2 := h2.2 c
        obtain ⟨n1, h1⟩ := h1
        obtain ⟨n2, h2⟩ := h2
        exact ⟨n1, and_X12_findClimb_L144 (fun _ _ _ _ _ _ a b => ih _ _ _ _ _ _ _ a b) hq n1 n2 _ _ _ _ _ _ _ h1 h2⟩
set_option maxHeartbeats 4000000 in
theorem and_X12_findClimb_L19 {B : Nat × Nat} {Q1 Q2 Q3 : Int32 → jZ → jI → jL → Prop} (hq : ∀ (x0 : Int32) (x1 : jZ) (x2 : jI) (x3 : jL), Q1 x0 x1 x2 x3 → Q2 x0 x1 x2 x3 → Q3 x0 x1 x2 x3) : ∀ (n m : Nat) (v0 : Nat) (v1 : Int32) (v2 : Int32) (v3 : Int32) (Z : jZ) (I : jI) (L : jL), f_X12_findClimb_L19 B Q1 n v0 v1 v2 v3 Z I L → f_X12_findClimb_L19 B Q2 m v0 v1 v2 v3 Z I L → f_X12_findClimb_L19 B Q3 n v0 v1 v2 v3 Z I L := by
  intro n
  induction n with
  | zero => intro m v0 v1 v2 v3 Z I L h1 h2; exact h1.elim
  | succ n ih =>
    intro m v0 v1 v2 v3 Z I L h1 h2
    cases m with
    | zero => exact h2.elim
    | succ m =>
      unfold f_X12_findClimb_L19 at h1 h2 ⊢
      intro b21 eb21
      have h1 := h1 b21 eb21
      have h2 := h2 b21 eb21
      refine ⟨h1.1, ?_⟩
      have h1 := h1.2
      have h2 := h2.2
      refine ⟨fun c => ?_, fun c => ?_⟩
      · have h1 := h1.1 c
        have h2 := h2.1 c
        refine ⟨fun c => ?_, fun c => ?_⟩
        · have h1 := h1.1 c
          have h2 := h2.1 c
          intro b25 eb25
          have h1 := h1 b25 eb25
          have h2 := h2 b25 eb25
          refine ⟨h1.1, ?_⟩
          have h1 := h1.2
          have h2 := h2.2
          intro I27 eI27
          have h1 := h1 I27 eI27
          have h2 := h2 I27 eI27
          intro I28 eI28
          have h1 := h1 I28 eI28
          have h2 := h2 I28 eI28
          intro I29 eI29
          have h1 := h1 I29 eI29
          have h2 := h2 I29 eI29
          obtain ⟨n1, h1⟩ := h1
          obtain ⟨n2, h2⟩ := h2
          exact ⟨n1, and_X12_findClimb_L131  hq n1 n2 _ _ _ _ _ _ h1 h2⟩
        · have h1 := h1.2 c
          have h2 := h2.2 c
          exact hq _ _ _ _ h1 h2
      · have h1 := h1.2 c
        have h2 := h2.2 c
        intro b31 eb31
        have h1 := h1 b31 eb31
        have h2 := h2 b31 eb31
        refine ⟨h1.1, ?_⟩
        have h1 := h1.2
        have h2 := h2.2
        refine ⟨fun c => ?_, fun c => ?_⟩
        · have h1 := h1.1 c
          have h2 := h2.1 c
          unfold f_X12_findClimb_b90 at h1 h2 ⊢
          intro x20 ex20
          have h1 := h1 x20 ex20
          have h2 := h2 x20 ex20
          exact ih _ _ _ _ _ _ _ _ h1 h2
        · have h1 := h1.2 c
          have h2 := h2.2 c
          intro b34 eb34
          have h1 := h1 b34 eb34
          have h2 := h2 b34 eb34
          refine ⟨h1.1, ?_⟩
          have h1 := h1.2
          have h2 := h2.2
          intro b36 eb36
          have h1 := h1 b36 eb36
          have h2 := h2 b36 eb36
          refine ⟨h1.1, ?_⟩
          have h1 := h1.2
          have h2 := h2.2
          refine ⟨fun c => ?_, fun c => ?_⟩
          · have h1 := h1.1 c
            have h2 := h2.1 c
            refine ⟨fun c => ?_, fun c => ?_⟩
            · have h1 := h1.1 c
              have h2 := h2.1 c
              unfold f_X12_findClimb_b88 at h1 h2 ⊢
              unfold f_X12_findClimb_b90 at h1 h2 ⊢
              intro x20 ex20
              have h1 := h1 x20 ex20
              have h2 := h2 x20 ex20
              exact ih _ _ _ _ _ _ _ _ h1 h2
            · have h1 := h1.2 c
              have h2 := h2.2 c
              intro b40 eb40
              have h1 := h1 b40 eb40
              have h2 := h2 b40 eb40
              refine ⟨h1.1, ?_⟩
              have h1 := h1.2
              have h2 := h2.2
              intro b42 eb42
              have h1 := h1 b42 eb42
              have h2 := h2 b42 eb42
              refine ⟨h1.1, ?_⟩
              have h1 := h1.2
              have h2 := h2.2
              refine ⟨fun c => ?_, fun c => ?_⟩
              · have h1 := h1.1 c
                have h2 := h2.1 c
                unfold f_X12_findClimb_b90 at h1 h2 ⊢
                intro x20 ex20
                have h1 := h1 x20 ex20
                have h2 := h2 x20 ex20
                exact ih _ _ _ _ _ _ _ _ h1 h2
              · have h1 := h1.2 c
                have h2 := h2.2 c
                unfold f_X12_findClimb_b88 at h1 h2 ⊢
                unfold f_X12_findClimb_b90 at h1 h2 ⊢
                intro x20 ex20
                have h1 := h1 x20 ex20
                have h2 := h2 x20 ex20
                exact ih _ _ _ _ _ _ _ _ h1 h2
          · have h1 := h1.2 c
            have h2 := h2.2 c
            unfold f_X12_findClimb_b90 at h1 h2 ⊢
            intro x20 ex20
            have h1 := h1 x20 ex20
            have h2 := h2 x20 ex20
            exact ih _ _ _ _ _ _ _ _ h1 h2
set_option maxHeartbeats 4000000 in
theorem and_X12_findClimb {B : Nat × Nat} {v0 : Nat} {v1 : Int32} {Z : jZ} {I : jI} {L : jL} {Q1 Q2 Q3 : Int32 → jZ → jI → jL → Prop} (h1 : f_X12_findClimb B v0 v1 Z I L Q1) (h2 : f_X12_findClimb B v0 v1 Z I L Q2) (hq : ∀ (x0 : Int32) (x1 : jZ) (x2 : jI) (x3 : jL), Q1 x0 x1 x2 x3 → Q2 x0 x1 x2 x3 → Q3 x0 x1 x2 x3) : f_X12_findClimb B v0 v1 Z I L Q3 := by
  unfold f_X12_findClimb at h1 h2 ⊢
  refine and_X12_layMoves h1 h2 (fun Z46 I47 L48 h1 h2 => ?_)
  intro b52 eb52
  have h1 := h1 b52 eb52
  have h2 := h2 b52 eb52
  refine ⟨h1.1, ?_⟩
  have h1 := h1.2
  have h2 := h2.2
  refine and_X12_findByEffort h1 h2 (fun I56 L57 h1 h2 => ?_)
  obtain ⟨n1, h1⟩ := h1
  obtain ⟨n2, h2⟩ := h2
  exact ⟨n1, and_X12_findClimb_L19  hq n1 n2 _ _ _ _ _ _ _ h1 h2⟩
/-! ===== the reference: what a STEP is paid ===== -/
def RFM (Z : jZ) (I : jI) (v0 t1 t2 t3 t4 t5 t6 t9 t10 t11 t12 t13 t29 t30 uX0 uX1 : Nat) (s0 s1 : Int) (D : DAT) (a : Nat → Int32) : Prop := (WD Z I) ∧ (STm Z v0 t1 t2 t3 t4 t6 t29 t30) ∧ (jr Z v0 5 = some t5) ∧ (jr Z v0 9 = some t9) ∧ (jr Z v0 10 = some t10) ∧ (jr Z v0 11 = some t11) ∧ (jr Z v0 12 = some t12) ∧ (jr Z v0 13 = some t13) ∧ (jr Z t29 0 = some uX0) ∧ (jr Z t29 1 = some uX1) ∧ ((I t30 0).toInt = s0 ∧ 0 ≤ s0 ∧ s0 ≤ 40 ∧ lwA (I uX0) s0 = 0) ∧ ((I t30 1).toInt = s1 ∧ 0 ≤ s1 ∧ s1 ≤ 40 ∧ lwA (I uX1) s1 = 0) ∧ (dC0 D = lwC (I uX0) s0) ∧ (dC1 D = lwC (I uX1) s1) ∧ ((I v0 0).toInt = (dN D : Int)) ∧ ((I v0 8).toInt = (dP D : Int)) ∧ (∀ k, k < dN D → I t3 k = a k) ∧ (∀ k, k < dN D → I t1 k = dR D k) ∧ (∀ k, k < dN D → I t2 k = dS D k) ∧ (∀ k, k < dN D → wLm (I t4) k = dW D k) ∧ (∀ st fr : Int, 0 ≤ st → st < (dN D : Int) → -1 ≤ fr → fr < (dN D : Int) → xLm (dMn D) (I t6) st fr = dX D st fr) ∧ (∀ s, s < dN D → (mnR (I t5) s : Int) = (dMn D s).toInt) ∧ (∀ p, p < dP D → (I t9 p).toInt = dKn D p ∧ (I t10 p).toInt = dPu D p ∧ (I t11 p).toInt = (dLp D p : Int) ∧ (I t12 p).toInt = dLd D p ∧ I t13 p = dVw D p) ∧ ((I v0 39).toInt = -1)
theorem RFM.w {Z : jZ} {I : jI} {v0 t1 t2 t3 t4 t5 t6 t9 t10 t11 t12 t13 t29 t30 uX0 uX1 : Nat} {s0 s1 : Int} {D : DAT} {a : Nat → Int32} (h : RFM Z I v0 t1 t2 t3 t4 t5 t6 t9 t10 t11 t12 t13 t29 t30 uX0 uX1 s0 s1 D a) : WD Z I := h.1
theorem RFM.S {Z : jZ} {I : jI} {v0 t1 t2 t3 t4 t5 t6 t9 t10 t11 t12 t13 t29 t30 uX0 uX1 : Nat} {s0 s1 : Int} {D : DAT} {a : Nat → Int32} (h : RFM Z I v0 t1 t2 t3 t4 t5 t6 t9 t10 t11 t12 t13 t29 t30 uX0 uX1 s0 s1 D a) : STm Z v0 t1 t2 t3 t4 t6 t29 t30 := h.2.1
theorem RFM.h5 {Z : jZ} {I : jI} {v0 t1 t2 t3 t4 t5 t6 t9 t10 t11 t12 t13 t29 t30 uX0 uX1 : Nat} {s0 s1 : Int} {D : DAT} {a : Nat → Int32} (h : RFM Z I v0 t1 t2 t3 t4 t5 t6 t9 t10 t11 t12 t13 t29 t30 uX0 uX1 s0 s1 D a) : jr Z v0 5 = some t5 := h.2.2.1
theorem RFM.h9 {Z : jZ} {I : jI} {v0 t1 t2 t3 t4 t5 t6 t9 t10 t11 t12 t13 t29 t30 uX0 uX1 : Nat} {s0 s1 : Int} {D : DAT} {a : Nat → Int32} (h : RFM Z I v0 t1 t2 t3 t4 t5 t6 t9 t10 t11 t12 t13 t29 t30 uX0 uX1 s0 s1 D a) : jr Z v0 9 = some t9 := h.2.2.2.1
theorem RFM.h10 {Z : jZ} {I : jI} {v0 t1 t2 t3 t4 t5 t6 t9 t10 t11 t12 t13 t29 t30 uX0 uX1 : Nat} {s0 s1 : Int} {D : DAT} {a : Nat → Int32} (h : RFM Z I v0 t1 t2 t3 t4 t5 t6 t9 t10 t11 t12 t13 t29 t30 uX0 uX1 s0 s1 D a) : jr Z v0 10 = some t10 := h.2.2.2.2.1
theorem RFM.h11 {Z : jZ} {I : jI} {v0 t1 t2 t3 t4 t5 t6 t9 t10 t11 t12 t13 t29 t30 uX0 uX1 : Nat} {s0 s1 : Int} {D : DAT} {a : Nat → Int32} (h : RFM Z I v0 t1 t2 t3 t4 t5 t6 t9 t10 t11 t12 t13 t29 t30 uX0 uX1 s0 s1 D a) : jr Z v0 11 = some t11 := h.2.2.2.2.2.1
theorem RFM.h12 {Z : jZ} {I : jI} {v0 t1 t2 t3 t4 t5 t6 t9 t10 t11 t12 t13 t29 t30 uX0 uX1 : Nat} {s0 s1 : Int} {D : DAT} {a : Nat → Int32} (h : RFM Z I v0 t1 t2 t3 t4 t5 t6 t9 t10 t11 t12 t13 t29 t30 uX0 uX1 s0 s1 D a) : jr Z v0 12 = some t12 := h.2.2.2.2.2.2.1
theorem RFM.h13 {Z : jZ} {I : jI} {v0 t1 t2 t3 t4 t5 t6 t9 t10 t11 t12 t13 t29 t30 uX0 uX1 : Nat} {s0 s1 : Int} {D : DAT} {a : Nat → Int32} (h : RFM Z I v0 t1 t2 t3 t4 t5 t6 t9 t10 t11 t12 t13 t29 t30 uX0 uX1 s0 s1 D a) : jr Z v0 13 = some t13 := h.2.2.2.2.2.2.2.1
theorem RFM.hX0 {Z : jZ} {I : jI} {v0 t1 t2 t3 t4 t5 t6 t9 t10 t11 t12 t13 t29 t30 uX0 uX1 : Nat} {s0 s1 : Int} {D : DAT} {a : Nat → Int32} (h : RFM Z I v0 t1 t2 t3 t4 t5 t6 t9 t10 t11 t12 t13 t29 t30 uX0 uX1 s0 s1 D a) : jr Z t29 0 = some uX0 := h.2.2.2.2.2.2.2.2.1
theorem RFM.hX1 {Z : jZ} {I : jI} {v0 t1 t2 t3 t4 t5 t6 t9 t10 t11 t12 t13 t29 t30 uX0 uX1 : Nat} {s0 s1 : Int} {D : DAT} {a : Nat → Int32} (h : RFM Z I v0 t1 t2 t3 t4 t5 t6 t9 t10 t11 t12 t13 t29 t30 uX0 uX1 s0 s1 D a) : jr Z t29 1 = some uX1 := h.2.2.2.2.2.2.2.2.2.1
theorem RFM.g0 {Z : jZ} {I : jI} {v0 t1 t2 t3 t4 t5 t6 t9 t10 t11 t12 t13 t29 t30 uX0 uX1 : Nat} {s0 s1 : Int} {D : DAT} {a : Nat → Int32} (h : RFM Z I v0 t1 t2 t3 t4 t5 t6 t9 t10 t11 t12 t13 t29 t30 uX0 uX1 s0 s1 D a) : (I t30 0).toInt = s0 ∧ 0 ≤ s0 ∧ s0 ≤ 40 ∧ lwA (I uX0) s0 = 0 := h.2.2.2.2.2.2.2.2.2.2.1
theorem RFM.g1 {Z : jZ} {I : jI} {v0 t1 t2 t3 t4 t5 t6 t9 t10 t11 t12 t13 t29 t30 uX0 uX1 : Nat} {s0 s1 : Int} {D : DAT} {a : Nat → Int32} (h : RFM Z I v0 t1 t2 t3 t4 t5 t6 t9 t10 t11 t12 t13 t29 t30 uX0 uX1 s0 s1 D a) : (I t30 1).toInt = s1 ∧ 0 ≤ s1 ∧ s1 ≤ 40 ∧ lwA (I uX1) s1 = 0 := h.2.2.2.2.2.2.2.2.2.2.2.1
theorem RFM.d0 {Z : jZ} {I : jI} {v0 t1 t2 t3 t4 t5 t6 t9 t10 t11 t12 t13 t29 t30 uX0 uX1 : Nat} {s0 s1 : Int} {D : DAT} {a : Nat → Int32} (h : RFM Z I v0 t1 t2 t3 t4 t5 t6 t9 t10 t11 t12 t13 t29 t30 uX0 uX1 s0 s1 D a) : dC0 D = lwC (I uX0) s0 := h.2.2.2.2.2.2.2.2.2.2.2.2.1
theorem RFM.d1 {Z : jZ} {I : jI} {v0 t1 t2 t3 t4 t5 t6 t9 t10 t11 t12 t13 t29 t30 uX0 uX1 : Nat} {s0 s1 : Int} {D : DAT} {a : Nat → Int32} (h : RFM Z I v0 t1 t2 t3 t4 t5 t6 t9 t10 t11 t12 t13 t29 t30 uX0 uX1 s0 s1 D a) : dC1 D = lwC (I uX1) s1 := h.2.2.2.2.2.2.2.2.2.2.2.2.2.1
theorem RFM.hn {Z : jZ} {I : jI} {v0 t1 t2 t3 t4 t5 t6 t9 t10 t11 t12 t13 t29 t30 uX0 uX1 : Nat} {s0 s1 : Int} {D : DAT} {a : Nat → Int32} (h : RFM Z I v0 t1 t2 t3 t4 t5 t6 t9 t10 t11 t12 t13 t29 t30 uX0 uX1 s0 s1 D a) : (I v0 0).toInt = (dN D : Int) := h.2.2.2.2.2.2.2.2.2.2.2.2.2.2.1
theorem RFM.hp {Z : jZ} {I : jI} {v0 t1 t2 t3 t4 t5 t6 t9 t10 t11 t12 t13 t29 t30 uX0 uX1 : Nat} {s0 s1 : Int} {D : DAT} {a : Nat → Int32} (h : RFM Z I v0 t1 t2 t3 t4 t5 t6 t9 t10 t11 t12 t13 t29 t30 uX0 uX1 s0 s1 D a) : (I v0 8).toInt = (dP D : Int) := h.2.2.2.2.2.2.2.2.2.2.2.2.2.2.2.1
theorem RFM.ha {Z : jZ} {I : jI} {v0 t1 t2 t3 t4 t5 t6 t9 t10 t11 t12 t13 t29 t30 uX0 uX1 : Nat} {s0 s1 : Int} {D : DAT} {a : Nat → Int32} (h : RFM Z I v0 t1 t2 t3 t4 t5 t6 t9 t10 t11 t12 t13 t29 t30 uX0 uX1 s0 s1 D a) : ∀ k, k < dN D → I t3 k = a k := h.2.2.2.2.2.2.2.2.2.2.2.2.2.2.2.2.1
theorem RFM.hr {Z : jZ} {I : jI} {v0 t1 t2 t3 t4 t5 t6 t9 t10 t11 t12 t13 t29 t30 uX0 uX1 : Nat} {s0 s1 : Int} {D : DAT} {a : Nat → Int32} (h : RFM Z I v0 t1 t2 t3 t4 t5 t6 t9 t10 t11 t12 t13 t29 t30 uX0 uX1 s0 s1 D a) : ∀ k, k < dN D → I t1 k = dR D k := h.2.2.2.2.2.2.2.2.2.2.2.2.2.2.2.2.2.1
theorem RFM.hs {Z : jZ} {I : jI} {v0 t1 t2 t3 t4 t5 t6 t9 t10 t11 t12 t13 t29 t30 uX0 uX1 : Nat} {s0 s1 : Int} {D : DAT} {a : Nat → Int32} (h : RFM Z I v0 t1 t2 t3 t4 t5 t6 t9 t10 t11 t12 t13 t29 t30 uX0 uX1 s0 s1 D a) : ∀ k, k < dN D → I t2 k = dS D k := h.2.2.2.2.2.2.2.2.2.2.2.2.2.2.2.2.2.2.1
theorem RFM.hw {Z : jZ} {I : jI} {v0 t1 t2 t3 t4 t5 t6 t9 t10 t11 t12 t13 t29 t30 uX0 uX1 : Nat} {s0 s1 : Int} {D : DAT} {a : Nat → Int32} (h : RFM Z I v0 t1 t2 t3 t4 t5 t6 t9 t10 t11 t12 t13 t29 t30 uX0 uX1 s0 s1 D a) : ∀ k, k < dN D → wLm (I t4) k = dW D k := h.2.2.2.2.2.2.2.2.2.2.2.2.2.2.2.2.2.2.2.1
theorem RFM.hx {Z : jZ} {I : jI} {v0 t1 t2 t3 t4 t5 t6 t9 t10 t11 t12 t13 t29 t30 uX0 uX1 : Nat} {s0 s1 : Int} {D : DAT} {a : Nat → Int32} (h : RFM Z I v0 t1 t2 t3 t4 t5 t6 t9 t10 t11 t12 t13 t29 t30 uX0 uX1 s0 s1 D a) : ∀ st fr : Int, 0 ≤ st → st < (dN D : Int) → -1 ≤ fr → fr < (dN D : Int) → xLm (dMn D) (I t6) st fr = dX D st fr := h.2.2.2.2.2.2.2.2.2.2.2.2.2.2.2.2.2.2.2.2.1
theorem RFM.hm {Z : jZ} {I : jI} {v0 t1 t2 t3 t4 t5 t6 t9 t10 t11 t12 t13 t29 t30 uX0 uX1 : Nat} {s0 s1 : Int} {D : DAT} {a : Nat → Int32} (h : RFM Z I v0 t1 t2 t3 t4 t5 t6 t9 t10 t11 t12 t13 t29 t30 uX0 uX1 s0 s1 D a) : ∀ s, s < dN D → (mnR (I t5) s : Int) = (dMn D s).toInt := h.2.2.2.2.2.2.2.2.2.2.2.2.2.2.2.2.2.2.2.2.2.1
theorem RFM.pil {Z : jZ} {I : jI} {v0 t1 t2 t3 t4 t5 t6 t9 t10 t11 t12 t13 t29 t30 uX0 uX1 : Nat} {s0 s1 : Int} {D : DAT} {a : Nat → Int32} (h : RFM Z I v0 t1 t2 t3 t4 t5 t6 t9 t10 t11 t12 t13 t29 t30 uX0 uX1 s0 s1 D a) : ∀ p, p < dP D → (I t9 p).toInt = dKn D p ∧ (I t10 p).toInt = dPu D p ∧ (I t11 p).toInt = (dLp D p : Int) ∧ (I t12 p).toInt = dLd D p ∧ I t13 p = dVw D p := h.2.2.2.2.2.2.2.2.2.2.2.2.2.2.2.2.2.2.2.2.2.2.1
theorem RFM.sh {Z : jZ} {I : jI} {v0 t1 t2 t3 t4 t5 t6 t9 t10 t11 t12 t13 t29 t30 uX0 uX1 : Nat} {s0 s1 : Int} {D : DAT} {a : Nat → Int32} (h : RFM Z I v0 t1 t2 t3 t4 t5 t6 t9 t10 t11 t12 t13 t29 t30 uX0 uX1 s0 s1 D a) : (I v0 39).toInt = -1 := h.2.2.2.2.2.2.2.2.2.2.2.2.2.2.2.2.2.2.2.2.2.2.2
theorem RFM.dok {Z : jZ} {I : jI} {v0 t1 t2 t3 t4 t5 t6 t9 t10 t11 t12 t13 t29 t30 uX0 uX1 : Nat} {s0 s1 : Int} {D : DAT} {a : Nat → Int32} (X : RFM Z I v0 t1 t2 t3 t4 t5 t6 t9 t10 t11 t12 t13 t29 t30 uX0 uX1 s0 s1 D a) : DOK D := by
  have w := X.w
  obtain ⟨k1, k2, k3, k4, k6, k29, l29, k30⟩ := STm_k w X.S
  obtain ⟨kv, h1, h2, h3, h4, h6, h29, h30⟩ := X.S
  have n := w.fld 12 0 kv (by decide)
  have q := w.fld 12 8 kv (by decide)
  have n : 0 ≤ (I v0 0).toInt ∧ (I v0 0).toInt ≤ 24 := n
  have q : 0 ≤ (I v0 8).toInt ∧ (I v0 8).toInt ≤ 6 := q
  have hn := X.hn
  have hp := X.hp
  obtain ⟨x, ex, k9, -⟩ := sh_f w.1 kv (j := 9) (k := 14) (m := 6) rfl
  cases X.h9.symm.trans ex
  obtain ⟨x, ex, k10, -⟩ := sh_f w.1 kv (j := 10) (k := 14) (m := 6) rfl
  cases X.h10.symm.trans ex
  obtain ⟨x, ex, k11, -⟩ := sh_f w.1 kv (j := 11) (k := 14) (m := 6) rfl
  cases X.h11.symm.trans ex
  obtain ⟨x, ex, k12, -⟩ := sh_f w.1 kv (j := 12) (k := 14) (m := 6) rfl
  cases X.h12.symm.trans ex
  refine ⟨by omega, by omega, fun k hk => ?_, fun k hk => ?_, fun p hpp => ?_⟩
  · rw [← X.hr k hk]
    exact w.arr 12 1 kv h1 k1 rfl rfl k
  · rw [← X.hs k hk]
    exact w.arr 12 2 kv h2 k2 rfl rfl k
  · obtain ⟨e9, e10, e11, e12, e13⟩ := X.pil p hpp
    have r9 : 0 ≤ (I t9 p).toInt ∧ (I t9 p).toInt ≤ 120 := w.arr 12 9 kv X.h9 k9 rfl rfl p
    have r10 : 0 ≤ (I t10 p).toInt ∧ (I t10 p).toInt ≤ 999 := w.arr 12 10 kv X.h10 k10 rfl rfl p
    have r11 : 0 ≤ (I t11 p).toInt ∧ (I t11 p).toInt ≤ 3 := w.arr 12 11 kv X.h11 k11 rfl rfl p
    have r12 : 0 ≤ (I t12 p).toInt ∧ (I t12 p).toInt ≤ 50 := w.arr 12 12 kv X.h12 k12 rfl rfl p
    omega
theorem RFM.ok {Z : jZ} {I : jI} {v0 t1 t2 t3 t4 t5 t6 t9 t10 t11 t12 t13 t29 t30 uX0 uX1 : Nat} {s0 s1 : Int} {D : DAT} {a : Nat → Int32} (X : RFM Z I v0 t1 t2 t3 t4 t5 t6 t9 t10 t11 t12 t13 t29 t30 uX0 uX1 s0 s1 D a) (k : Nat) (hk : k < dN D) : 0 ≤ (a k).toInt ∧ (a k).toInt ≤ 20 := by
  obtain ⟨k1, k2, k3, k4, k6, k29, l29, k30⟩ := STm_k X.w X.S
  rw [← X.ha k hk]
  exact X.w.arr 12 3 X.S.1 X.S.2.2.2.1 k3 rfl rfl k
def Wk12 : List (Nat × Nat) := [(12, 0), (12, 1), (12, 2), (12, 4), (12, 5), (12, 6), (12, 8), (12, 9), (12, 10), (12, 11), (12, 12), (12, 13), (12, 30), (12, 39), (19, 0), (19, 1)]
/-- the reference's world stays while nothing of it is written but what is asked -/
theorem RFM.fra {W : List (Nat × Nat)} {Z' : jZ} {I' : jI} {a' : Nat → Int32} {Z : jZ} {I : jI} {v0 t1 t2 t3 t4 t5 t6 t9 t10 t11 t12 t13 t29 t30 uX0 uX1 : Nat} {s0 s1 : Int} {D : DAT} {a : Nat → Int32} (X : RFM Z I v0 t1 t2 t3 t4 t5 t6 t9 t10 t11 t12 t13 t29 t30 uX0 uX1 s0 s1 D a) (w' : WD Z' I') (f : FR W Z I Z' I') (hW : ∀ p ∈ Wk12, p ∉ W) (h3' : ∀ k, k < dN D → I' t3 k = a' k) : RFM Z' I' v0 t1 t2 t3 t4 t5 t6 t9 t10 t11 t12 t13 t29 t30 uX0 uX1 s0 s1 D a' := by
  have w := X.w
  obtain ⟨k1, k2, k3, k4, k6, k29, l29, k30⟩ := STm_k w X.S
  obtain ⟨kv, h1, h2, h3, h4, h6, h29, h30⟩ := X.S
  obtain ⟨x, ex, k5, -⟩ := sh_f w.1 kv (j := 5) (k := 14) (m := 192) rfl
  cases X.h5.symm.trans ex
  obtain ⟨x, ex, k9, -⟩ := sh_f w.1 kv (j := 9) (k := 14) (m := 6) rfl
  cases X.h9.symm.trans ex
  obtain ⟨x, ex, k10, -⟩ := sh_f w.1 kv (j := 10) (k := 14) (m := 6) rfl
  cases X.h10.symm.trans ex
  obtain ⟨x, ex, k11, -⟩ := sh_f w.1 kv (j := 11) (k := 14) (m := 6) rfl
  cases X.h11.symm.trans ex
  obtain ⟨x, ex, k12, -⟩ := sh_f w.1 kv (j := 12) (k := 14) (m := 6) rfl
  cases X.h12.symm.trans ex
  obtain ⟨x, ex, k13, -⟩ := sh_f w.1 kv (j := 13) (k := 14) (m := 6) rfl
  cases X.h13.symm.trans ex
  obtain ⟨x, ex, kX0, -⟩ := w.1.2.2.2 t29 k29 0 (by rw [l29]; decide)
  cases X.hX0.symm.trans ex
  obtain ⟨x, ex, kX1, -⟩ := w.1.2.2.2 t29 k29 1 (by rw [l29]; decide)
  cases X.hX1.symm.trans ex
  have rf : ∀ (j b : Nat), jr Z v0 j = some b → j ≠ 23 → jr Z' v0 j = some b := fun j b e hj => (f.2.1 v0 12 j kv (fun q => absurd q.1 (by decide)) (fun q => hj q.2)).trans e
  have ar : ∀ (j b k : Nat), jr Z v0 j = some b → jk Z b k → jia k = true → j ≠ 23 → (12, j) ∈ Wk12 → I' b = I b := fun j b k e kb hk hj hn => f.2.2.2 v0 12 j b kv e (by rw [kb.2]; exact hk) (jsr12 hj) (hW _ hn)
  have fl : ∀ j, (12, j) ∈ Wk12 → I' v0 j = I v0 j := fun j hj => f.2.2.1 v0 12 j kv (by decide) (hW _ hj)
  have a1 := ar 1 t1 14 h1 k1 rfl (by decide) (by decide)
  have a2 := ar 2 t2 14 h2 k2 rfl (by decide) (by decide)
  have a4 := ar 4 t4 16 h4 k4 rfl (by decide) (by decide)
  have a5 := ar 5 t5 14 X.h5 k5 rfl (by decide) (by decide)
  have a6 := ar 6 t6 16 h6 k6 rfl (by decide) (by decide)
  have a9 := ar 9 t9 14 X.h9 k9 rfl (by decide) (by decide)
  have a10 := ar 10 t10 14 X.h10 k10 rfl (by decide) (by decide)
  have a11 := ar 11 t11 14 X.h11 k11 rfl (by decide) (by decide)
  have a12 := ar 12 t12 14 X.h12 k12 rfl (by decide) (by decide)
  have a13 := ar 13 t13 14 X.h13 k13 rfl (by decide) (by decide)
  have a30 := ar 30 t30 14 h30 k30 rfl (by decide) (by decide)
  have aX0 : I' uX0 = I uX0 := f.2.2.2 t29 19 0 uX0 k29 X.hX0 (by rw [kX0.2]; rfl) rfl (hW _ (by decide))
  have aX1 : I' uX1 = I uX1 := f.2.2.2 t29 19 1 uX1 k29 X.hX1 (by rw [kX1.2]; rfl) rfl (hW _ (by decide))
  refine ⟨w', ⟨(f.1 _ _ kv).1, rf 1 _ h1 (by decide), rf 2 _ h2 (by decide), rf 3 _ h3 (by decide), rf 4 _ h4 (by decide), rf 6 _ h6 (by decide), rf 29 _ h29 (by decide), rf 30 _ h30 (by decide)⟩, rf 5 _ X.h5 (by decide), rf 9 _ X.h9 (by decide), rf 10 _ X.h10 (by decide), rf 11 _ X.h11 (by decide), rf 12 _ X.h12 (by decide), rf 13 _ X.h13 (by decide), (f.2.1 t29 19 0 k29 (by decide) (by decide)).trans X.hX0, (f.2.1 t29 19 1 k29 (by decide) (by decide)).trans X.hX1, ?_, ?_, ?_, ?_, ?_, ?_, ?_, ?_, ?_, ?_, ?_, ?_, ?_, ?_⟩
  · rw [a30, aX0]; exact X.g0
  · rw [a30, aX1]; exact X.g1
  · rw [aX0]; exact X.d0
  · rw [aX1]; exact X.d1
  · rw [fl 0 (by decide)]; exact X.hn
  · rw [fl 8 (by decide)]; exact X.hp
  · exact h3'
  · rw [a1]; exact X.hr
  · rw [a2]; exact X.hs
  · rw [a4]; exact X.hw
  · rw [a6]; exact X.hx
  · rw [a5]; exact X.hm
  · rw [a9, a10, a11, a12, a13]; exact X.pil
  · rw [fl 39 (by decide)]; exact X.sh
theorem RFM.fr {W : List (Nat × Nat)} {Z' : jZ} {I' : jI} {Z : jZ} {I : jI} {v0 t1 t2 t3 t4 t5 t6 t9 t10 t11 t12 t13 t29 t30 uX0 uX1 : Nat} {s0 s1 : Int} {D : DAT} {a : Nat → Int32} (X : RFM Z I v0 t1 t2 t3 t4 t5 t6 t9 t10 t11 t12 t13 t29 t30 uX0 uX1 s0 s1 D a) (w' : WD Z' I') (f : FR W Z I Z' I') (hW : ∀ p ∈ Wk12, p ∉ W) (h3 : (12, 3) ∉ W) : RFM Z' I' v0 t1 t2 t3 t4 t5 t6 t9 t10 t11 t12 t13 t29 t30 uX0 uX1 s0 s1 D a := by
  obtain ⟨k1, k2, k3, k4, k6, k29, l29, k30⟩ := STm_k X.w X.S
  have a3 : I' t3 = I t3 := f.2.2.2 v0 12 3 t3 X.S.1 X.S.2.2.2.1 (by rw [k3.2]; rfl) rfl h3
  exact X.fra w' f hW (by rw [a3]; exact X.ha)
/-- one step asks something else -/
theorem RFM.put {Z : jZ} {I : jI} {v0 t1 t2 t3 t4 t5 t6 t9 t10 t11 t12 t13 t29 t30 uX0 uX1 : Nat} {s0 s1 : Int} {D : DAT} {a : Nat → Int32} (X : RFM Z I v0 t1 t2 t3 t4 t5 t6 t9 t10 t11 t12 t13 t29 t30 uX0 uX1 s0 s1 D a) (s : Nat) (v : Int32) (rv : 0 ≤ v.toInt ∧ v.toInt ≤ 20) : RFM Z (jpI I t3 s v) v0 t1 t2 t3 t4 t5 t6 t9 t10 t11 t12 t13 t29 t30 uX0 uX1 s0 s1 D (updA a s v) ∧ FR [(12, 3)] Z I Z (jpI I t3 s v) := by
  obtain ⟨k1, k2, k3, k4, k6, k29, l29, k30⟩ := STm_k X.w X.S
  have kv := X.S.1
  have h3 := X.S.2.2.2.1
  have w' : WD Z (jpI I t3 s v) := WD_putA X.w 12 3 kv h3 k3 rfl rfl (by decide) (by constructor <;> omega)
  have f' : FR [(12, 3)] Z I Z (jpI I t3 s v) := FR_upA X.w.2.1 kv h3 k3 rfl rfl List.mem_cons_self
  refine ⟨X.fra w' f' (by decide) (fun k hk => ?_), f'⟩
  unfold updA
  by_cases c : k = s
  · rw [if_pos c, c, jpI_at]
  · rw [if_neg c, jpI_off c, X.ha k hk]
theorem RFM.mnm {Z : jZ} {I : jI} {v0 t1 t2 t3 t4 t5 t6 t9 t10 t11 t12 t13 t29 t30 uX0 uX1 : Nat} {s0 s1 : Int} {D : DAT} {a : Nat → Int32} (X : RFM Z I v0 t1 t2 t3 t4 t5 t6 t9 t10 t11 t12 t13 t29 t30 uX0 uX1 s0 s1 D a) : MNM Z I v0 (dN D) (dMn D) := by
  intro v1 s Z' I' L Q w' f e1 hs hQ
  have n24 := X.dok.1
  have kv := X.S.1
  obtain ⟨x, ex, k5, -⟩ := sh_f X.w.1 kv (j := 5) (k := 14) (m := 192) rfl
  cases X.h5.symm.trans ex
  have a5 : I' t5 = I t5 := f.2.2.2 v0 12 5 t5 kv X.h5 (by rw [k5.2]; rfl) rfl (by decide)
  refine s17_X12_mainOf v0 v1 t5 ((f.2.1 v0 12 5 kv (by decide) (by decide)).trans X.h5) s e1 (by omega) (fun r er => ?_)
  rw [a5, X.hm s hs] at er
  rw [(i_eq (x := r) (y := dMn D s) rfl rfl).mpr er]
  exact hQ
theorem RFM.bm {Z : jZ} {I : jI} {v0 t1 t2 t3 t4 t5 t6 t9 t10 t11 t12 t13 t29 t30 uX0 uX1 : Nat} {s0 s1 : Int} {D : DAT} {a : Nat → Int32} (X : RFM Z I v0 t1 t2 t3 t4 t5 t6 t9 t10 t11 t12 t13 t29 t30 uX0 uX1 s0 s1 D a) (s : Nat) (hs : s < dN D) : 0 ≤ (dMn D s).toInt ∧ (dMn D s).toInt ≤ 7 := by
  have h := X.hm s hs
  have l := mnR_le (T := I t5) (s := s)
  omega
theorem RFM.prm {B : Nat × Nat} {T : Nat} {Z : jZ} {I : jI} {v0 t1 t2 t3 t4 t5 t6 t9 t10 t11 t12 t13 t29 t30 uX0 uX1 : Nat} {s0 s1 : Int} {D : DAT} {a : Nat → Int32} (X : RFM Z I v0 t1 t2 t3 t4 t5 t6 t9 t10 t11 t12 t13 t29 t30 uX0 uX1 s0 s1 D a) : PRM B T Z I v0 (dN D : Int) (PRa D a) := by
  unfold PRa
  rw [X.d0, X.d1]
  exact PRM_of X.w v0 t1 t2 t3 t4 t6 t29 t30 X.S (dN D) X.dok.1 (dMn D) X.bm X.mnm uX0 uX1 X.hX0 X.hX1 s0 s1 X.g0 X.g1 a (dR D) (dS D) (dW D) (dX D) X.ha X.hr X.hs X.hw X.hx
theorem RFM.smd {B : Nat × Nat} {T : Nat} {Z : jZ} {I : jI} {v0 t1 t2 t3 t4 t5 t6 t9 t10 t11 t12 t13 t29 t30 uX0 uX1 : Nat} {s0 s1 : Int} {D : DAT} {a : Nat → Int32} (X : RFM Z I v0 t1 t2 t3 t4 t5 t6 t9 t10 t11 t12 t13 t29 t30 uX0 uX1 s0 s1 D a) (ok : aOK a) (p : Nat) (hp : p < dP D) (t37 t38 : Nat) (h37 : jr Z v0 37 = some t37) (h38 : jr Z v0 38 = some t38) : SMd B T Z I v0 t1 t2 t11 t12 t13 t37 t38 p (dLp D p) (dN D) (dLd D p) (-1) (dVw D p) (dMn D) (PRa D a) (Hn (dR D) (dN D)) (Hn (dS D) (dN D)) := by
  have d := X.dok
  obtain ⟨kv, h1, h2, h3, h4, h6, h29, h30⟩ := X.S
  obtain ⟨e9, e10, e11, e12, e13⟩ := X.pil p hp
  obtain ⟨q1, q2, q3, q4⟩ := d.2.2.2.2 p hp
  refine ⟨X.w, kv, h1, h2, X.h11, X.h12, X.h13, h37, h38, X.prm, X.mnm, PRa_rng ok, Hn_rng (by omega) d.2.2.1, Hn_rng (by omega) d.2.2.2.1, fun s hs => ?_, fun s hs => ?_, X.hn, ⟨e11, q1⟩, ⟨e12, q2⟩, e13, X.sh, d.1, by have := d.2.1; omega⟩
  · rw [Hn_at hs, X.hr s (by omega)]
  · rw [Hn_at hs, X.hs s (by omega)]
/-- the reference's cheapest climb of pilgrim p -/
theorem RFM.fc {B : Nat × Nat} {T : Nat} {L : jL} {Z : jZ} {I : jI} {v0 t1 t2 t3 t4 t5 t6 t9 t10 t11 t12 t13 t29 t30 uX0 uX1 : Nat} {s0 s1 : Int} {D : DAT} {a : Nat → Int32} (X : RFM Z I v0 t1 t2 t3 t4 t5 t6 t9 t10 t11 t12 t13 t29 t30 uX0 uX1 s0 s1 D a) (ok : aOK a) (bd : BUD B Z T) (hn1 : 1 ≤ dN D) (v1 : Int32) (p : Nat) (hp : p < dP D) (e1 : v1.toInt = (p : Int)) {Q : Int32 → jZ → jI → jL → Prop}
    (hQ : ∀ (r : Int32) (Z' : jZ) (I' : jI) (L' : jL) (t44 : Nat), WD Z' I' → BUD B Z' T → FR Ws_X12_findClimb Z I Z' I' → CP Z Z' → jr Z' v0 44 = some t44 → CLR (dLp D p) (dN D) (dOp D p) (dC D a p) (dE D p) (dKn D p) (dPu D p) I' v0 t44 r → Q r Z' I' L') : f_X12_findClimb B v0 v1 Z I L Q := by
  have w := X.w
  have kv := X.S.1
  have d := X.dok
  have hn := X.hn
  obtain ⟨t37, h37, -⟩ := sh_f w.1 kv (j := 37) (k := 14) (m := 75) rfl
  obtain ⟨t38, h38, -⟩ := sh_f w.1 kv (j := 38) (k := 14) (m := 75) rfl
  obtain ⟨t40, h40, -⟩ := sh_f w.1 kv (j := 40) (k := 14) (m := 25000) rfl
  obtain ⟨t44, h44, -⟩ := sh_f w.1 kv (j := 44) (k := 14) (m := 24) rfl
  obtain ⟨e9, e10, e11, e12, e13⟩ := X.pil p hp
  obtain ⟨q1, q2, q3, q4⟩ := d.2.2.2.2 p hp
  have p6 := d.2.1
  refine and_X12_findClimb (s_X12_findClimb w bd v0 v1 kv t37 h37 t38 h38 t40 h40 t9 X.h9 t44 h44 (by omega) (by omega) (Q := fun r Z' I' L' => WD Z' I' ∧ BUD B Z' T ∧ FR Ws_X12_findClimb Z I Z' I' ∧ CP Z Z') (fun r Z' I' L' a b c e _ => ⟨a, b, c, e⟩)) (r_X12_findClimb (X.smd ok p hp t37 t38 h37 h38) bd v1 e1 t9 t10 X.h9 X.h10 (dKn D p).toNat (by omega) (by omega) (dPu D p) e10 (Q := fun r Z' I' L' => ∃ t44, jr Z' v0 44 = some t44 ∧ CLR (dLp D p) (dN D) (dOp D p) (dC D a p) (dE D p) (((dKn D p).toNat : Nat) : Int) (dPu D p) I' v0 t44 r) (fun r Z' I' L' t44 a b => ⟨t44, a, b⟩)) (fun r Z' I' L' h1 h2 => ?_)
  obtain ⟨a1, a2, a3, a4⟩ := h1
  obtain ⟨t, b1, b2⟩ := h2
  rw [show (((dKn D p).toNat : Nat) : Int) = dKn D p by omega] at b2
  exact hQ r Z' I' L' t a1 a2 a3 a4 b1 b2
theorem PTL_bits {f : Nat → Int32} : ∀ (m i q : Nat) (b : Int), q ≤ 24 → (∀ j, i ≤ j → j < i + m → (f j).toInt ≤ 23) → PTL f m i q b → 0 ≤ b ∧ b < btP q := by
  intro m
  induction m with
  | zero =>
    intro i q b hq _ h
    have h : b = 0 := h
    have := btP_pos q
    omega
  | succ m ih =>
    intro i q b hq hf h
    obtain ⟨p, hqp, e, h⟩ := h
    have := hf i (Nat.le_refl _) (by omega)
    have g := ih (i + 1) p (b - btP p) (by omega) (fun j h1 h2 => hf j (by omega) (by omega)) h
    have l := btP_less (p := p) (by omega) (p - q) (by omega) (by omega)
    rw [show p - (p - q) = q by omega] at l
    have := btP_pos p
    omega
set_option maxHeartbeats 4000000 in
/-- the climb told is walked along: step s is paid once -/
theorem pt_L47 {B : Nat × Nat} {T : Nat} {Z : jZ} {I : jI} {v0 t1 t2 t3 t4 t5 t6 t9 t10 t11 t12 t13 t29 t30 uX0 uX1 : Nat} {s0 s1 : Int} {D : DAT} {a : Nat → Int32} (X : RFM Z I v0 t1 t2 t3 t4 t5 t6 t9 t10 t11 t12 t13 t29 t30 uX0 uX1 s0 s1 D a) (ok : aOK a) (s p : Nat) (hs : s < dN D) (hp : p < dP D) (t44 : Nat) (h44 : jr Z v0 44 = some t44) (m : Nat) (hm : (I v0 43).toInt = (m : Int)) (hm24 : m ≤ 24) (v1 v3 v5 : Int32) (e1 : v1.toInt = (s : Int)) (e5 : v5.toInt = (p : Int)) (base : Int) (bb : 0 ≤ base ∧ base ≤ 1000) (fr to : Nat) {K : Nat → Int32 → Int32 → Int32 → Int32 → jZ → jI → jL → Prop} {Q : Int32 → jZ → jI → jL → Prop}
    (hk : ∀ (v4 : Int32) (Z' : jZ) (I' : jI) (L' : jL), v4.toInt = base + prS (PRa D a) (dLd D p) s fr to → WD Z' I' → BUD B Z' T → FR Ws_X12_lawOf Z I Z' I' → CP Z Z' → f_X12_paidTo_b124 B K Q v0 v1 v3 v4 v5 Z' I' L') :
    ∀ (k i q : Nat) (b : Int) (v4 v6 v7 : Int32) (Z1 : jZ) (I1 : jI) (L1 : jL), m + 1 ≤ k + i → i ≤ m → q ≤ 24 → v6.toInt = (q : Int) - 1 → v7.toInt = (i : Int) → PTL (I t44) (m - i) i q b → ((q ≤ s ∧ v4.toInt = base ∧ PAS s (m - i) q b fr to) ∨ (s < q ∧ v4.toInt = base + prS (PRa D a) (dLd D p) s fr to)) → WD Z1 I1 → BUD B Z1 T → FR Ws_X12_lawOf Z I Z1 I1 → CP Z Z1 → f_X12_paidTo_L47 B K Q k v0 v1 v3 v4 v5 v6 v7 Z1 I1 L1 := by
  have w := X.w
  have kv := X.S.1
  have z0 : (0 : Int32).toInt = 0 := rfl
  have z1 : (1 : Int32).toInt = 1 := rfl
  have n24 := X.dok.1
  have p6 := X.dok.2.1
  have bP := PRa_rng (D := D) ok
  obtain ⟨x, ex, k44, -⟩ := sh_f w.1 kv (j := 44) (k := 14) (m := 24) rfl
  cases h44.symm.trans ex
  obtain ⟨x, ex, k12, -⟩ := sh_f w.1 kv (j := 12) (k := 14) (m := 6) rfl
  cases X.h12.symm.trans ex
  have r44 : ∀ j, 0 ≤ (I t44 j).toInt ∧ (I t44 j).toInt ≤ 23 := fun j => w.arr 12 44 kv h44 k44 rfl rfl j
  have rp : 0 ≤ prS (PRa D a) (dLd D p) s fr to ∧ prS (PRa D a) (dLd D p) s fr to ≤ 99 := bP _ _ _ _ _
  intro k
  induction k with
  | zero => intro i q b v4 v6 v7 Z1 I1 L1 hk hi; omega
  | succ k ih =>
    intro i q b v4 v6 v7 Z1 I1 L1 hk1 hi hq e6 e7 hP hor w1 bd1 f1 cp1
    have i43 : (I1 v0 43).toInt = (m : Int) := by rw [f1.2.2.1 v0 12 43 kv (by decide) (by decide)]; exact hm
    have a44 : I1 t44 = I t44 := f1.2.2.2 v0 12 44 t44 kv h44 (by rw [k44.2]; rfl) rfl (by decide)
    have a12 : I1 t12 = I t12 := f1.2.2.2 v0 12 12 t12 kv X.h12 (by rw [k12.2]; rfl) rfl (by decide)
    have g44 := (f1.2.1 v0 12 44 kv (by decide) (by decide)).trans h44
    have g12 := (f1.2.1 v0 12 12 kv (by decide) (by decide)).trans X.h12
    unfold f_X12_paidTo_L47
    refine ⟨fun c => ?_, fun c => ?_⟩
    · have c := (i_le i43 e7).mp c
      rcases hor with ⟨_, _, h⟩ | ⟨_, h⟩
      · rw [show m - i = 0 by omega] at h
        exact h.elim
      · exact hk v4 Z1 I1 L1 h w1 bd1 f1 cp1
    have c := (not_congr (i_le i43 e7)).mp c
    have n7 : v7.toNatClampNeg = i := by have := i_nat e7 (by omega); omega
    intro b15 h15; cases g44.symm.trans h15
    rw [n7, a44]
    refine ⟨vi_of e7 (by omega) (by omega), fun x17 e17 => ?_⟩
    rw [show m - i = (m - (i + 1)) + 1 by omega] at hP hor
    obtain ⟨pl, hql, epl, hP'⟩ := hP
    have r17 := r44 i
    have t17 : x17.toInt = (pl : Int) - 1 := by rw [e17]; exact epl
    have nx : ∀ x : Int32, x = v7 + 1 → x.toInt = ((i + 1 : Nat) : Int) := fun x ex => by
      rw [ex]
      exact (i_add e7 z1 (by omega) (by omega)).trans (by omega)
    have bits := PTL_bits (m - (i + 1)) (i + 1) pl (b - btP pl) (by omega) (fun j _ _ => (r44 j).2) hP'
    have next : ∀ (v4' : Int32) (Z2 : jZ) (I2 : jI) (L2 : jL), ((pl ≤ s ∧ v4'.toInt = base ∧ PAS s (m - (i + 1)) pl (b - btP pl) fr to) ∨ (s < pl ∧ v4'.toInt = base + prS (PRa D a) (dLd D p) s fr to)) → WD Z2 I2 → BUD B Z2 T → FR Ws_X12_lawOf Z I Z2 I2 → CP Z Z2 → f_X12_paidTo_b114 B K (f_X12_paidTo_L47 B K Q k) Q v0 v1 v3 v4' v5 v7 x17 Z2 I2 L2 := by
      intro v4' Z2 I2 L2 ho w2 bd2 f2 cp2
      unfold f_X12_paidTo_b114
      intro x ex
      exact ih (i + 1) pl (b - btP pl) v4' x17 x Z2 I2 L2 (by omega) (by omega) (by omega) t17 (nx x ex) hP' ho w2 bd2 f2 cp2
    refine ⟨fun c2 => ?_, fun c2 => ⟨fun c3 => ?_, fun c3 => ?_⟩⟩
    · have c2 := (i_le e1 e6).mp c2
      rcases hor with ⟨h, _, _⟩ | ⟨_, h⟩
      · omega
      · exact next v4 Z1 I1 L1 (Or.inr ⟨by omega, h⟩) w1 bd1 f1 cp1
    · have c2 := (not_congr (i_le e1 e6)).mp c2
      have c3 := (i_lt t17 e1).mp c3
      rcases hor with ⟨_, h, hA⟩ | ⟨h, _⟩
      · obtain ⟨far, f1', f2', f3', f4', f5'⟩ := hA
        have ef : far = pl - q := PAS_far f2' f3' f4' (by omega) (by rw [show q + (pl - q) = pl by omega]; omega) (by rw [show q + (pl - q) = pl by omega]; omega)
        subst ef
        rw [show q + (pl - q) = pl by omega] at f5'
        rcases f5' with ⟨g1, _, _⟩ | ⟨g1, g2⟩
        · omega
        · exact next v4 Z1 I1 L1 (Or.inl ⟨by omega, h, g2⟩) w1 bd1 f1 cp1
      · omega
    · have c2 := (not_congr (i_le e1 e6)).mp c2
      have c3 := (not_congr (i_lt t17 e1)).mp c3
      rcases hor with ⟨_, h, hA⟩ | ⟨h, _⟩
      · obtain ⟨far, f1', f2', f3', f4', f5'⟩ := hA
        have ef : far = pl - q := PAS_far f2' f3' f4' (by omega) (by rw [show q + (pl - q) = pl by omega]; omega) (by rw [show q + (pl - q) = pl by omega]; omega)
        subst ef
        rw [show q + (pl - q) = pl by omega] at f5'
        rcases f5' with ⟨g1, g2, g3⟩ | ⟨g1, g2⟩
        · have pay : ∀ lwv : Int32, lwv.toInt = (if to = s + 1 then 0 else 1) → f_X12_paidTo_b91 B K (f_X12_paidTo_L47 B K Q k) Q v0 v1 v3 v5 v6 v7 x17 v4 v0 lwv Z1 I1 L1 := by
            intro lwv elw
            have n5 : v5.toNatClampNeg = p := by have := i_nat e5 (by omega); omega
            unfold f_X12_paidTo_b91
            intro b3 h3; cases g12.symm.trans h3
            rw [n5, a12]
            refine ⟨vi_of e5 (by omega) (by omega), ?_⟩
            have td : ((x17 - v6) - (1 : Int32)).toInt = (to : Int) - (fr : Int) - 1 := (i_sub (i_sub t17 e6 (by omega) (by omega)) z1 (by omega) (by omega)).trans (by omega)
            refine X.prm (B := B) (T := T) lwv v1 v6 (I t12 p) ((x17 - v6) - (1 : Int32)) Z1 I1 L1 _ w1 bd1 (f1.mono (by decide)) ?_ (by omega) (by omega) (fun r Z2 I2 L2 w2 bd2 f2 cp2 er x13 e13 => ?_)
            · rw [elw]
              by_cases c9 : to = s + 1
              · rw [if_pos c9]; omega
              · rw [if_neg c9]; omega
            have er : r.toInt = prS (PRa D a) (dLd D p) s fr to := by
              rw [er, elw, e1, e6, td, (X.pil p hp).2.2.2.1, ← g2]
              rfl
            exact next x13 Z2 I2 L2 (Or.inr ⟨by omega, by rw [e13]; exact i_add h er (by omega) (by omega)⟩) w2 bd2 (f1.trans w.1 w.2.1 f2) (CP.trans f1.1 cp1 cp2)
          refine ⟨fun c4 => ?_, fun c4 => ?_⟩
          · have c4 := (not_congr (i_eq e1 t17)).mp c4
            exact pay 1 (by rw [if_neg (by omega)]; rfl)
          · have c4 := (i_eq e1 t17).mp c4
            exact pay 0 (by rw [if_pos (by omega)]; rfl)
        · omega
      · omega
/-! ===== the reference: paidTo, findBest, the market ===== -/
theorem i_of {v : Int32} {n : Nat} (h : v.toInt = (n : Int)) (hn : n ≤ 1000) : v = Int32.ofNat n := by
  have e : (Int32.ofNat n).toInt = (n : Int) := i_nI (n := n) (by omega)
  exact (i_eq h e).mpr rfl
theorem aOK_upI {a : Nat → Int32} {s : Nat} {v : Int32} (h : aOK a) (rv : 0 ≤ v.toInt ∧ v.toInt ≤ 20) : aOK (updA a s v) := fun k => by
  unfold updA
  by_cases c : k = s
  · rw [if_pos c]; exact rv
  · rw [if_neg c]; exact h k
theorem updA_id {a : Nat → Int32} {s : Nat} : updA a s (a s) = a := by
  funext k
  unfold updA
  by_cases c : k = s
  · rw [if_pos c, c]
  · rw [if_neg c]
theorem updA_back {a : Nat → Int32} {s : Nat} {v : Int32} : updA (updA a s v) s (a s) = a := by
  funext k
  unfold updA
  by_cases c : k = s
  · rw [if_pos c, c]
  · rw [if_neg c, if_neg c]
theorem PAS_ex {lp n s : Nat} {op : Nat → Prop} {C E : Nat → Nat → Int} {m : Nat} {c e b : Int} (hn : n ≤ 24) (hs : s < n) (h : PX lp op C E m 0 n c e b) : ∃ fr to, PAS s m 0 b fr to := by
  obtain ⟨m1, m2, fr, to, c1, e1, b1, c2, e2, b2, g1, g2, g3, g4, g5, g6, g7, g8, g9, g10, g11⟩ := PX_split m 0 c e b (Nat.zero_le s) hs h
  refine ⟨fr, to, ?_⟩
  rw [g8, g11]
  exact PAS_px hn g2 g3 g4 g7 m1 0 c1 e1 b1 g1
theorem smN_upd {f : Nat → Int} {x : Int} (p : Nat) : smN (fun i => if i = p then x else f i) (p + 1) = smN f p + x := by
  show smN (fun i => if i = p then x else f i) p + (if p = p then x else f p) = smN f p + x
  rw [if_pos rfl, smN_cong p (f := fun i => if i = p then x else f i) (g := f) (fun i hi => if_neg (by omega))]
set_option maxHeartbeats 4000000 in
theorem pt_L20 {B : Nat × Nat} {T : Nat} {Z0 : jZ} {I0 : jI} (w0 : WD Z0 I0) {v0 t1 t2 t3 t4 t5 t6 t9 t10 t11 t12 t13 t29 t30 uX0 uX1 : Nat} {s0 s1 : Int} {D : DAT} {a : Nat → Int32} (ok : aOK a) (d : DOK D) (hn1 : 1 ≤ dN D) (s : Nat) (hs : s < dN D) (v1 v3 : Int32) (e1 : v1.toInt = (s : Int)) {Q : Int32 → jZ → jI → jL → Prop}
    (hQ : ∀ (r : Int32) (Z' : jZ) (I' : jI) (L' : jL) (f g : Nat → Int), (∀ p, p < dP D → PYd D a s p (f p) (g p)) → r.toInt = smN f (dP D) → RFM Z' I' v0 t1 t2 t3 t4 t5 t6 t9 t10 t11 t12 t13 t29 t30 uX0 uX1 s0 s1 D a → BUD B Z' T → FR Ws_X12_findClimb Z0 I0 Z' I' → CP Z0 Z' → Q r Z' (jpI I' t3 s v3) L') :
    ∀ (k p : Nat) (f g : Nat → Int) (v4 v5 : Int32) (Z : jZ) (I : jI) (L : jL), dP D + 1 ≤ k + p → p ≤ dP D → v5.toInt = (p : Int) → (∀ i, i < p → PYd D a s i (f i) (g i)) → v4.toInt = smN f p → RFM Z I v0 t1 t2 t3 t4 t5 t6 t9 t10 t11 t12 t13 t29 t30 uX0 uX1 s0 s1 D a → BUD B Z T → FR Ws_X12_findClimb Z0 I0 Z I → CP Z0 Z → f_X12_paidTo_L20 B Q k v0 v1 v3 v4 v5 Z I L := by
  have z1 : (1 : Int32).toInt = 1 := rfl
  have z0 : (0 : Int32).toInt = 0 := rfl
  have n24 := d.1
  have p6 := d.2.1
  intro k
  induction k with
  | zero => intro p f g v4 v5 Z I L hk hi; omega
  | succ k ih =>
    intro p f g v4 v5 Z I L hk hi e5 hf e4 X bd fr0 cp0
    unfold f_X12_paidTo_L20
    refine ⟨fun c => ?_, fun c => ?_⟩
    · have c := (i_le X.hp e5).mp c
      have ep : p = dP D := by omega
      subst ep
      intro b hb; cases X.S.2.2.2.1.symm.trans hb
      refine ⟨vi_of e1 (by omega) (by omega), fun I24 e24 => ?_⟩
      have n1 : v1.toNatClampNeg = s := by have := i_nat e1 (by omega); omega
      rw [e24, n1]
      exact hQ v4 Z I L f g hf e4 X bd fr0 cp0
    · have c := (not_congr (i_le X.hp e5)).mp c
      have hp : p < dP D := by omega
      have w := X.w
      have nx : ∀ x : Int32, x = v5 + 1 → x.toInt = ((p + 1 : Nat) : Int) := fun x ex => by
        rw [ex]
        exact (i_add e5 z1 (by omega) (by omega)).trans (by omega)
      have rg := smN_rng (f := f) (m := 99) p (fun i hip => (PYd_rng ok (hf i hip)).1)
      -- the next pilgrim
      have next : ∀ (pay cl : Int) (v4' : Int32) (Z' : jZ) (I' : jI) (L' : jL), PYd D a s p pay cl → v4'.toInt = smN f p + pay → RFM Z' I' v0 t1 t2 t3 t4 t5 t6 t9 t10 t11 t12 t13 t29 t30 uX0 uX1 s0 s1 D a → BUD B Z' T → FR Ws_X12_findClimb Z0 I0 Z' I' → CP Z0 Z' → f_X12_paidTo_b124 B (f_X12_paidTo_L20 B Q k) Q v0 v1 v3 v4' v5 Z' I' L' := by
        intro pay cl v4' Z' I' L' hy e4' X' bd' f' cp'
        unfold f_X12_paidTo_b124
        intro x ex
        refine ih (p + 1) (fun i => if i = p then pay else f i) (fun i => if i = p then cl else g i) v4' x Z' I' L' (by omega) (by omega) (nx x ex) (fun i hip => ?_) (by rw [smN_upd]; exact e4') X' bd' f' cp'
        by_cases ci : i = p
        · rw [if_pos ci, if_pos ci, ci]; exact hy
        · rw [if_neg ci, if_neg ci]; exact hf i (by omega)
      refine X.fc ok bd hn1 v5 p hp e5 (fun r Z' I' L' t44 w' bd' f' cp' h44 hc => ?_)
      have X' := X.fr w' f' (by decide) (by decide)
      have f0' := fr0.trans w0.1 w0.2.1 f'
      have cp0' := CP.trans fr0.1 cp0 cp'
      rcases hc with ⟨er, no⟩ | ⟨er, m, c1, e, b, hl, _, _, em, hP⟩
      · refine ⟨fun c2 => absurd ((i_eq er z0).mpr rfl) c2, fun _ => next 0 0 v4 Z' I' L' (Or.inl ⟨no, rfl, rfl⟩) (by rw [e4, Int.add_zero]) X' bd' f0' cp0'⟩
      · refine ⟨fun _ => ?_, fun c2 => absurd ((i_eq er z0).mp c2) (by omega)⟩
        obtain ⟨fr, to, hA⟩ := PAS_ex n24 hs hl.1.1
        have lm := PX_le _ _ _ _ _ _ hl.1.1
        refine ⟨m + 1, pt_L47 X' ok s p hs hp t44 h44 m em (by omega) v1 v3 v5 e1 e5 (smN f p) (by omega) fr to (fun v4' Z2 I2 L2 e4' w2 bd2 f2 cp2 => ?_) (m + 1) 0 0 b v4 (-1 : Int32) (0 : Int32) Z' I' L' (by omega) (by omega) (by omega) rfl rfl hP (Or.inl ⟨by omega, e4, hA⟩) w' bd' FR.rf CP.rf⟩
        exact next _ 1 v4' Z2 I2 L2 (Or.inr ⟨m, c1, e, b, fr, to, hl, hA, rfl, rfl⟩) e4' (X'.fr w2 f2 (by decide) (by decide)) bd2 (f0'.trans w0.1 w0.2.1 (f2.mono (by decide))) (CP.trans f0'.1 cp0' cp2)
/-- paidTo -/
theorem r_X12_paidTo {B : Nat × Nat} {T : Nat} {L : jL} {Z : jZ} {I : jI} {v0 t1 t2 t3 t4 t5 t6 t9 t10 t11 t12 t13 t29 t30 uX0 uX1 : Nat} {s0 s1 : Int} {D : DAT} {a : Nat → Int32} (X : RFM Z I v0 t1 t2 t3 t4 t5 t6 t9 t10 t11 t12 t13 t29 t30 uX0 uX1 s0 s1 D a) (ok : aOK a) (bd : BUD B Z T) (s : Nat) (hs : s < dN D) (v1 v2 : Int32) (e1 : v1.toInt = (s : Int)) (r2 : 0 ≤ v2.toInt ∧ v2.toInt ≤ 20) {Q : Int32 → jZ → jI → jL → Prop}
    (hQ : ∀ (r : Int32) (Z' : jZ) (I' : jI) (L' : jL) (c : Int), TOT D (updA a s v2) s r.toInt c → RFM Z' I' v0 t1 t2 t3 t4 t5 t6 t9 t10 t11 t12 t13 t29 t30 uX0 uX1 s0 s1 D a → BUD B Z' T → FR Ws_X12_paidTo Z I Z' I' → CP Z Z' → Q r Z' I' L') : f_X12_paidTo B v0 v1 v2 Z I L Q := by
  have d := X.dok
  have n24 := d.1
  have n1 : v1.toNatClampNeg = s := by have := i_nat e1 (by omega); omega
  have h3 := X.S.2.2.2.1
  have z0 : (0 : Int32).toInt = 0 := rfl
  unfold f_X12_paidTo
  intro b hb; cases h3.symm.trans hb
  refine ⟨vi_of e1 (by omega) (by omega), fun x37 e37 => ?_⟩
  intro b hb; cases h3.symm.trans hb
  refine ⟨vi_of e1 (by omega) (by omega), fun I40 e40 => ?_⟩
  rw [n1] at e37 e40
  have e37 : x37 = a s := e37.trans (X.ha s hs)
  subst e37
  obtain ⟨X1, f1⟩ := X.put s v2 r2
  rw [← e40] at X1 f1
  refine ⟨dP D + 1, pt_L20 X1.w (aOK_upI ok r2) d (by omega) s hs v1 (a s) e1 (fun r Z' I' L' f g hf er X' bd' f' cp' => ?_) (dP D + 1) 0 (fun _ => 0) (fun _ => 0) 0 0 Z I40 L (by omega) (by omega) rfl (fun i hi => absurd hi (Nat.not_lt_zero i)) rfl X1 bd FR.rf CP.rf⟩
  obtain ⟨X2, f2⟩ := X'.put s (a s) (ok s)
  rw [updA_back] at X2
  exact hQ r Z' _ L' (smN g (dP D)) ⟨f, g, hf, er, rfl⟩ X2 bd' (((f1.mono (by decide)).trans X.w.1 X.w.2.1 (f'.mono (by decide))).trans X.w.1 X.w.2.1 (f2.mono (by decide))) cp'
theorem fb_L14 {B : Nat × Nat} {T : Nat} {Z0 : jZ} {I0 : jI} (w0 : WD Z0 I0) {v0 t1 t2 t3 t4 t5 t6 t9 t10 t11 t12 t13 t29 t30 uX0 uX1 : Nat} {s0 s1 : Int} {D : DAT} {a : Nat → Int32} (ok : aOK a) (s : Nat) (hs : s < dN D) (v1 : Int32) (e1 : v1.toInt = (s : Int)) {Q : Int32 → jZ → jI → jL → Prop}
    (hQ : ∀ (r : Int32) (Z' : jZ) (I' : jI) (L' : jL) (f : Nat → Int), (∀ v, v < 21 → ∃ c, TOT D (updA a s (Int32.ofNat v)) s (f v) c) → r.toInt = (bst f 20 : Int) → (I' v0 51).toInt = f (bst f 20) → RFM Z' I' v0 t1 t2 t3 t4 t5 t6 t9 t10 t11 t12 t13 t29 t30 uX0 uX1 s0 s1 D a → BUD B Z' T → FR Ws_X12_findBest Z0 I0 Z' I' → CP Z0 Z' → Q r Z' I' L') :
    ∀ (k v : Nat) (f : Nat → Int) (v2 v3 : Int32) (Z : jZ) (I : jI) (L : jL), 22 ≤ k + v → 1 ≤ v → v ≤ 21 → v3.toInt = (v : Int) → (∀ i, i < v → ∃ c, TOT D (updA a s (Int32.ofNat i)) s (f i) c) → v2.toInt = (bst f (v - 1) : Int) → (I v0 51).toInt = f (bst f (v - 1)) → RFM Z I v0 t1 t2 t3 t4 t5 t6 t9 t10 t11 t12 t13 t29 t30 uX0 uX1 s0 s1 D a → BUD B Z T → FR Ws_X12_findBest Z0 I0 Z I → CP Z0 Z → f_X12_findBest_L14 B Q k v0 v1 v2 v3 Z I L := by
  have z1 : (1 : Int32).toInt = 1 := rfl
  have z20 : (20 : Int32).toInt = 20 := rfl
  intro k
  induction k with
  | zero => intro v f v2 v3 Z I L hk h1 h2; omega
  | succ k ih =>
    intro v f v2 v3 Z I L hk h1 h2 e3 hf e2 e51 X bd f0 cp0
    unfold f_X12_findBest_L14
    refine ⟨fun c => ?_, fun c => ?_⟩
    · have c := (i_lt z20 e3).mp c
      have ev : v = 21 := by omega
      subst ev
      exact hQ v2 Z I L f hf e2 e51 X bd f0 cp0
    · have c := (not_congr (i_lt z20 e3)).mp c
      have o3 : v3 = Int32.ofNat v := i_of e3 (by omega)
      refine r_X12_paidTo X ok bd s hs v1 v3 e1 (by omega) (fun r Z' I' L' cc ht X' bd' f' cp' => ?_)
      have k' := (f'.1 _ _ X.S.1).1
      have i51 : (I' v0 51).toInt = f (bst f (v - 1)) := by rw [f'.2.2.1 v0 12 51 X.S.1 (by decide) (by decide)]; exact e51
      have f0' := f0.trans w0.1 w0.2.1 (f'.mono (by decide : ∀ p ∈ Ws_X12_paidTo, p ∈ Ws_X12_findBest))
      have cp0' := CP.trans f0.1 cp0 cp'
      rw [o3] at ht
      have nx : ∀ x : Int32, x = v3 + 1 → x.toInt = ((v + 1 : Nat) : Int) := fun x ex => by
        rw [ex]
        exact (i_add e3 z1 (by omega) (by omega)).trans (by omega)
      have lb := bst_le f (v - 1)
      have hf' : ∀ i, i < v + 1 → ∃ c, TOT D (updA a s (Int32.ofNat i)) s ((fun i => if i = v then r.toInt else f i) i) c := fun i hi => by
        by_cases ci : i = v
        · rw [ci]; exact ⟨cc, by show TOT D _ s (if v = v then r.toInt else f v) cc; rw [if_pos rfl]; exact ht⟩
        · show ∃ c, TOT D _ s (if i = v then r.toInt else f i) c
          rw [if_neg ci]; exact hf i (by omega)
      have eb : bst (fun i => if i = v then r.toInt else f i) (v - 1) = bst f (v - 1) := bst_cong (v - 1) (fun i hi => if_neg (by omega))
      have ebv : bst (fun i => if i = v then r.toInt else f i) v = if f (bst f (v - 1)) < r.toInt then v else bst f (v - 1) := by
        rw [show v = (v - 1) + 1 by omega]
        show (if (fun i => if i = (v - 1) + 1 then r.toInt else f i) (bst (fun i => if i = (v - 1) + 1 then r.toInt else f i) (v - 1)) < (fun i => if i = (v - 1) + 1 then r.toInt else f i) ((v - 1) + 1) then (v - 1) + 1 else bst (fun i => if i = (v - 1) + 1 then r.toInt else f i) (v - 1)) = _
        rw [show (v - 1) + 1 = v by omega, eb]
        show (if (if bst f (v - 1) = v then r.toInt else f (bst f (v - 1))) < (if v = v then r.toInt else f v) then v else bst f (v - 1)) = _
        rw [if_pos rfl, if_neg (show ¬ bst f (v - 1) = v by omega)]
      refine ⟨fun c2 => ?_, fun c2 => ?_⟩
      · have c2 := (i_lt i51 rfl).mp c2
        rw [if_pos c2] at ebv
        intro I12 e12
        have w12 : WD Z' I12 := by rw [e12]; exact WD_putF X'.w 12 51 k' (by decide) (by decide) trivial
        have f12 : FR [(12, 51)] Z' I' Z' I12 := by rw [e12]; exact FR_putF k' (by decide) List.mem_cons_self
        unfold f_X12_findBest_b48
        intro x ex
        refine ih (v + 1) (fun i => if i = v then r.toInt else f i) v3 x Z' I12 L' (by omega) (by omega) (by omega) (nx x ex) hf' ?_ ?_ (X'.fr w12 f12 (by decide) (by decide)) bd' (f0'.trans w0.1 w0.2.1 (f12.mono (by decide))) cp0'
        · rw [show v + 1 - 1 = v by omega, ebv]; exact e3
        · rw [show v + 1 - 1 = v by omega, ebv, e12, jpI_at]
          show r.toInt = if v = v then r.toInt else f v
          rw [if_pos rfl]
      · have c2 := (not_congr (i_lt i51 rfl)).mp c2
        rw [if_neg c2] at ebv
        unfold f_X12_findBest_b48
        intro x ex
        refine ih (v + 1) (fun i => if i = v then r.toInt else f i) v2 x Z' I' L' (by omega) (by omega) (by omega) (nx x ex) hf' ?_ ?_ X' bd' f0' cp0'
        · rw [show v + 1 - 1 = v by omega, ebv]; exact e2
        · rw [show v + 1 - 1 = v by omega, ebv, i51]
          show _ = if bst f (v - 1) = v then r.toInt else f (bst f (v - 1))
          rw [if_neg (by omega)]
theorem r_X12_findBest {B : Nat × Nat} {T : Nat} {L : jL} {Z : jZ} {I : jI} {v0 t1 t2 t3 t4 t5 t6 t9 t10 t11 t12 t13 t29 t30 uX0 uX1 : Nat} {s0 s1 : Int} {D : DAT} {a : Nat → Int32} (X : RFM Z I v0 t1 t2 t3 t4 t5 t6 t9 t10 t11 t12 t13 t29 t30 uX0 uX1 s0 s1 D a) (ok : aOK a) (bd : BUD B Z T) (s : Nat) (hs : s < dN D) (v1 : Int32) (e1 : v1.toInt = (s : Int)) {Q : Int32 → jZ → jI → jL → Prop}
    (hQ : ∀ (r : Int32) (Z' : jZ) (I' : jI) (L' : jL) (f : Nat → Int), (∀ v, v < 21 → ∃ c, TOT D (updA a s (Int32.ofNat v)) s (f v) c) → r.toInt = (bst f 20 : Int) → (I' v0 51).toInt = f (bst f 20) → RFM Z' I' v0 t1 t2 t3 t4 t5 t6 t9 t10 t11 t12 t13 t29 t30 uX0 uX1 s0 s1 D a → BUD B Z' T → FR Ws_X12_findBest Z I Z' I' → CP Z Z' → Q r Z' I' L') : f_X12_findBest B v0 v1 Z I L Q := by
  unfold f_X12_findBest
  have z0 : (0 : Int32).toInt = 0 := rfl
  have w := X.w
  refine r_X12_paidTo X ok bd s hs v1 0 e1 (by omega) (fun r Z' I' L' cc ht X' bd' f' cp' => ?_)
  have k' := (f'.1 _ _ X.S.1).1
  intro I12 e12
  have w12 : WD Z' I12 := by rw [e12]; exact WD_putF X'.w 12 51 k' (by decide) (by decide) trivial
  have f12 : FR [(12, 51)] Z' I' Z' I12 := by rw [e12]; exact FR_putF k' (by decide) List.mem_cons_self
  refine ⟨22, fb_L14 w ok s hs v1 e1 hQ 22 1 (fun _ => r.toInt) 0 1 Z' I12 L' (by omega) (by omega) (by omega) rfl (fun i hi => ?_) rfl ?_ (X'.fr w12 f12 (by decide) (by decide)) bd' (((f'.mono (by decide)).trans w.1 w.2.1 (f12.mono (by decide)))) cp'⟩
  · have ei : i = 0 := by omega
    subst ei
    exact ⟨cc, ht⟩
  · rw [e12, jpI_at]
set_option maxHeartbeats 1000000 in
theorem mk_L45 {B : Nat × Nat} {T : Nat} {Z : jZ} {I : jI} {v0 t1 t2 t3 t4 t5 t6 t9 t10 t11 t12 t13 t29 t30 uX0 uX1 : Nat} {s0 s1 : Int} {D : DAT} {a : Nat → Int32} (X : RFM Z I v0 t1 t2 t3 t4 t5 t6 t9 t10 t11 t12 t13 t29 t30 uX0 uX1 s0 s1 D a) (ok : aOK a) (v1 v2 v4 : Int32) (r2 : 0 ≤ v2.toInt ∧ v2.toInt ≤ 3) (r4 : 0 ≤ v4.toInt ∧ v4.toInt ≤ 3) {K : Nat → Int32 → Int32 → Int32 → Int32 → jZ → jI → jL → Prop} {Q : Int32 → jZ → jI → jL → Prop}
    (hK : ∀ (a' : Nat → Int32) (ch : Nat) (x21 v3 x22 : Int32) (Z' : jZ) (I' : jI) (L' : jL), RNm D (dN D) a a' ch → x21.toInt = v2.toInt + (if ch = 0 then 0 else 1) → v3.toInt = (if ch = 0 then 1 else 0) → x22.toInt = v4.toInt + 1 → RFM Z' I' v0 t1 t2 t3 t4 t5 t6 t9 t10 t11 t12 t13 t29 t30 uX0 uX1 s0 s1 D a' → BUD B Z' T → FR Ws_X12_findBest Z I Z' I' → CP Z Z' → K v0 v1 x21 v3 x22 Z' I' L') :
    ∀ (k i : Nat) (a' : Nat → Int32) (ch : Nat) (v3 v5 : Int32) (Z' : jZ) (I' : jI) (L' : jL), dN D + 1 ≤ k + i → i ≤ dN D → v5.toInt = (i : Int) → RNm D i a a' ch → v3.toInt = (if ch = 0 then 1 else 0) → RFM Z' I' v0 t1 t2 t3 t4 t5 t6 t9 t10 t11 t12 t13 t29 t30 uX0 uX1 s0 s1 D a' → BUD B Z' T → FR Ws_X12_findBest Z I Z' I' → CP Z Z' → f_X12_market_L45 B K Q k v0 v1 v2 v3 v4 v5 Z' I' L' := by
  have z1 : (1 : Int32).toInt = 1 := rfl
  have z0 : (0 : Int32).toInt = 0 := rfl
  have w := X.w
  have n24 := X.dok.1
  intro k
  induction k with
  | zero => intro i a' ch v3 v5 Z' I' L' hk hi; omega
  | succ k ih =>
    intro i a' ch v3 v5 Z' I' L' hk hi e5 hR e3 X' bd' f' cp'
    unfold f_X12_market_L45
    refine ⟨fun c => ?_, fun c => ?_⟩
    · have c := (i_le X'.hn e5).mp c
      have ei : i = dN D := by omega
      subst ei
      have go : ∀ x : Int32, x.toInt = (if ch = 0 then 0 else 1) → f_X12_market_b116 B K Q v0 v1 v3 v4 v2 x Z' I' L' := fun x ex => by
        unfold f_X12_market_b116
        intro x21 e21 x22 e22
        refine hK a' ch x21 v3 x22 Z' I' L' hR ?_ e3 ?_ X' bd' f' cp'
        · rw [e21]
          by_cases c0 : ch = 0
          · rw [if_pos c0] at ex ⊢
            exact i_add rfl ex (by omega) (by omega)
          · rw [if_neg c0] at ex ⊢
            exact i_add rfl ex (by omega) (by omega)
        · rw [e22]
          exact i_add rfl z1 (by omega) (by omega)
      refine ⟨fun c2 => go 1 ?_, fun c2 => go 0 ?_⟩
      · have c2 := (i_eq e3 z0).mp c2
        by_cases c0 : ch = 0
        · rw [if_pos c0] at c2; omega
        · rw [if_neg c0]; rfl
      · have c2 := (not_congr (i_eq e3 z0)).mp c2
        by_cases c0 : ch = 0
        · rw [if_pos c0]; rfl
        · rw [if_neg c0] at c2; omega
    · have c := (not_congr (i_le X'.hn e5)).mp c
      have hs : i < dN D := by omega
      have ok' := RNm_ok ok i a' ch hR
      have n5 : v5.toNatClampNeg = i := by have := i_nat e5 (by omega); omega
      have as := ok' i
      intro b hb; cases X'.S.2.2.2.1.symm.trans hb
      rw [n5, X'.ha i hs]
      refine ⟨vi_of e5 (by omega) (by omega), ?_⟩
      refine r_X12_paidTo X' ok' bd' i hs v5 (a' i) e5 as (fun r2 Z2 I2 L2 cc ht X2 bd2 f2 cp2 => ?_)
      refine r_X12_findBest X2 ok' bd2 i hs v5 e5 (fun r3 Z3 I3 L3 f hf eb e51 X3 bd3 f3 cp3 => ?_)
      have lb := bst_le f 20
      have f03 := (f'.trans w.1 w.2.1 (f2.mono (by decide : ∀ p ∈ Ws_X12_paidTo, p ∈ Ws_X12_findBest))).trans w.1 w.2.1 f3
      have cp03 := CP.trans (f'.trans w.1 w.2.1 (f2.mono (by decide : ∀ p ∈ Ws_X12_paidTo, p ∈ Ws_X12_findBest))).1 (CP.trans f'.1 cp' cp2) cp3
      have now : r2.toInt = f (a' i).toInt.toNat := by
        obtain ⟨c', t'⟩ := hf (a' i).toInt.toNat (by omega)
        rw [← i_of (v := a' i) (n := (a' i).toInt.toNat) (by omega) (by omega)] at t'
        exact (TOT_fun X.dok (aOK_upI ok' as) ht t').1
      have nx : ∀ x : Int32, x = v5 + 1 → x.toInt = ((i + 1 : Nat) : Int) := fun x ex => by
        rw [ex]
        exact (i_add e5 z1 (by omega) (by omega)).trans (by omega)
      refine ⟨fun c2 => ?_, fun c2 => ?_⟩
      · have c2 := (i_lt rfl e51).mp c2
        rw [now] at c2
        intro b hb; cases X3.S.2.2.2.1.symm.trans hb
        refine ⟨vi_of e5 (by omega) (by omega), fun I47 e47 => ?_⟩
        have ob : r3 = Int32.ofNat (bst f 20) := i_of eb (by omega)
        obtain ⟨X4, f4⟩ := X3.put i r3 (by omega)
        rw [← e47] at X4 f4
        unfold f_X12_market_b100
        intro x ex
        refine ih (i + 1) (updA a' i r3) 1 0 x Z3 I47 L3 (by omega) (by omega) (nx x ex) ⟨a', ch, 1, hR, ⟨f, hf, Or.inl ⟨c2, by rw [ob], rfl⟩⟩, ?_⟩ rfl X4 bd3 (f03.trans w.1 w.2.1 (f4.mono (by decide))) cp03
        rw [if_neg (by omega)]
      · have c2 := (not_congr (i_lt rfl e51)).mp c2
        rw [now] at c2
        unfold f_X12_market_b100
        intro x ex
        refine ih (i + 1) a' (if ch = 0 ∧ (0 : Nat) = 0 then 0 else 1) v3 x Z3 I3 L3 (by omega) (by omega) (nx x ex) ⟨a', ch, 0, hR, ⟨f, hf, Or.inr ⟨c2, rfl, rfl⟩⟩, rfl⟩ ?_ X3 bd3 f03 cp03
        rw [e3]
        by_cases c0 : ch = 0
        · rw [if_pos c0, if_pos (show ch = 0 ∧ (0 : Nat) = 0 from ⟨c0, rfl⟩), if_pos rfl]
        · rw [if_neg c0, if_neg (show ¬ (ch = 0 ∧ (0 : Nat) = 0) from fun h => c0 h.1), if_neg (by omega)]
theorem MKm_rng {D : DAT} {a : Nat → Int32} : ∀ (k : Nat) (a' : Nat → Int32) (g s : Nat), MKm D k a a' g s → g ≤ k ∧ s ≤ 1 := by
  intro k
  induction k with
  | zero => intro a' g s q; have := q.2.1; have := q.2.2; omega
  | succ k ih =>
    intro a' g s q
    obtain ⟨a1, g1, s1, q1, ⟨_, _, _, _⟩ | ⟨_, c, _, ⟨_, _, _⟩ | ⟨_, _, _⟩⟩⟩ := q <;> have := ih _ _ _ q1 <;> omega
theorem MKm_stay {D : DAT} {a a' : Nat → Int32} {k g : Nat} (h : MKm D k a a' g 1) : ∀ j, MKm D (k + j) a a' g 1 := by
  intro j
  induction j with
  | zero => exact h
  | succ j ih => exact ⟨a', g, 1, ih, Or.inl ⟨rfl, rfl, rfl, rfl⟩⟩
theorem mk_L130 {B : Nat × Nat} {Z : jZ} {I : jI} {v0 t1 t2 t3 t4 t5 t6 t9 t10 t11 t12 t13 t29 t30 uX0 uX1 : Nat} {s0 s1 : Int} {D : DAT} {a : Nat → Int32} (X : RFM Z I v0 t1 t2 t3 t4 t5 t6 t9 t10 t11 t12 t13 t29 t30 uX0 uX1 s0 s1 D a) (ok : aOK a) (v2 v3 : Int32) {Q : Int32 → jZ → jI → jL → Prop}
    (hQ : ∀ (I' : jI) (L' : jL), RFM Z I' v0 t1 t2 t3 t4 t5 t6 t9 t10 t11 t12 t13 t29 t30 uX0 uX1 s0 s1 D a → FR [(12, 21)] Z I Z I' → Q v2 Z I' L') :
    ∀ (k i : Nat) (v4 v5 : Int32) (L' : jL), dN D + 1 ≤ k + i → i ≤ dN D → v5.toInt = (i : Int) → 0 ≤ v4.toInt ∧ v4.toInt ≤ 20 * (i : Int) → f_X12_market_L130 B Q k v0 v2 v3 v4 v5 Z I L' := by
  have z1 : (1 : Int32).toInt = 1 := rfl
  have n24 := X.dok.1
  have kv := X.S.1
  have w := X.w
  intro k
  induction k with
  | zero => intro i v4 v5 L' hk hi; omega
  | succ k ih =>
    intro i v4 v5 L' hk hi e5 r4
    unfold f_X12_market_L130
    refine ⟨fun c => ?_, fun c => ?_⟩
    · intro I14 e14
      have w14 : WD Z I14 := by rw [e14]; exact WD_putF w 12 21 kv (by decide) (by decide) (by first | exact trivial | decide | (constructor <;> decide))
      have f14 : FR [(12, 21)] Z I Z I14 := by rw [e14]; exact FR_putF kv (by decide) List.mem_cons_self
      have e21 : (I14 v0 21).toInt = 0 := by rw [e14, jpI_at]; rfl
      have X14 := X.fr w14 f14 (by decide) (by decide)
      have go : ∀ s : Int64, f_X12_market_b172 B Q v0 v2 v4 v0 s Z I14 L' := fun s => by
        unfold f_X12_market_b172
        refine s_X12_tell w14 v0 _ kv (by omega) (fun I15 L15 w15 f15 p15 => ?_)
        refine s_X12_tell w15 v0 _ kv (by omega) (fun I16 L16 w16 f16 p16 => ?_)
        exact hQ I16 L16 ((X14.fr w15 f15 (by decide) (by decide)).fr w16 f16 (by decide) (by decide)) (((f14.mono (by decide)).trans w.1 w.2.1 (f15.mono (by decide))).trans w.1 w.2.1 (f16.mono (by decide)))
      exact ⟨fun _ => go 0, fun _ => go 1⟩
    · have c := (not_congr (i_le X.hn e5)).mp c
      have n5 : v5.toNatClampNeg = i := by have := i_nat e5 (by omega); omega
      intro b hb; cases X.S.2.2.2.1.symm.trans hb
      rw [n5, X.ha i (by omega)]
      refine ⟨vi_of e5 (by omega) (by omega), ?_⟩
      intro x18 e18 x19 e19
      have ra := ok i
      refine ih (i + 1) x18 x19 L' (by omega) (by omega) (by rw [e19]; exact (i_add e5 z1 (by omega) (by omega)).trans (by omega)) ?_
      rw [e18, i_add rfl rfl (by omega) (by omega)]
      omega
set_option maxHeartbeats 1000000 in
theorem mk_L30 {B : Nat × Nat} {T : Nat} {Z0 : jZ} {I0 : jI} (w0 : WD Z0 I0) {v0 t1 t2 t3 t4 t5 t6 t9 t10 t11 t12 t13 t29 t30 uX0 uX1 : Nat} {s0 s1 : Int} {D : DAT} {a : Nat → Int32} (ok : aOK a) (v1 : Int32) (N : Nat) (e1 : v1.toInt = (N : Int)) (hN : N ≤ 3) {Q : Int32 → jZ → jI → jL → Prop}
    (hQ : ∀ (r : Int32) (Z' : jZ) (I' : jI) (L' : jL) (a' : Nat → Int32) (g st : Nat), MKm D N a a' g st → r.toInt = (g : Int) → RFM Z' I' v0 t1 t2 t3 t4 t5 t6 t9 t10 t11 t12 t13 t29 t30 uX0 uX1 s0 s1 D a' → BUD B Z' T → FR Ws_X12_market Z0 I0 Z' I' → CP Z0 Z' → Q r Z' I' L') :
    ∀ (k j : Nat) (a' : Nat → Int32) (g st : Nat) (v2 v3 v4 : Int32) (Z : jZ) (I : jI) (L : jL), N + 1 ≤ k + j → j ≤ N → v4.toInt = (j : Int) → MKm D j a a' g st → v2.toInt = (g : Int) → v3.toInt = (st : Int) → RFM Z I v0 t1 t2 t3 t4 t5 t6 t9 t10 t11 t12 t13 t29 t30 uX0 uX1 s0 s1 D a' → BUD B Z T → FR Ws_X12_market Z0 I0 Z I → CP Z0 Z → f_X12_market_L30 B Q k v0 v1 v2 v3 v4 Z I L := by
  have z1 : (1 : Int32).toInt = 1 := rfl
  have z0 : (0 : Int32).toInt = 0 := rfl
  intro k
  induction k with
  | zero => intro j a' g st v2 v3 v4 Z I L hk hi; omega
  | succ k ih =>
    intro j a' g st v2 v3 v4 Z I L hk hi e4 hM e2 e3 X bd f0 cp0
    have ok' := MKm_ok ok j a' g st hM
    have rg := MKm_rng j a' g st hM
    have fin : MKm D N a a' g st → f_X12_market_b124 B Q v0 v2 v3 Z I L := fun hM' => by
      unfold f_X12_market_b124
      exact ⟨dN D + 1, mk_L130 X ok' v2 v3 (fun I' L' X' f' => hQ v2 Z I' L' a' g st hM' e2 X' bd (f0.trans w0.1 w0.2.1 (f'.mono (by decide))) cp0) (dN D + 1) 0 0 0 L (by omega) (by omega) rfl (by constructor <;> decide)⟩
    unfold f_X12_market_L30
    refine ⟨fun c => ?_, fun c => ⟨fun c2 => ?_, fun c2 => ?_⟩⟩
    · have c := (i_le e1 e4).mp c
      have ej : j = N := by omega
      subst ej
      exact fin hM
    · have c2 := (not_congr (i_eq e3 z0)).mp c2
      have es : st = 1 := by omega
      subst es
      refine fin ?_
      have := MKm_stay hM (N - j)
      rw [show j + (N - j) = N by omega] at this
      exact this
    · have c := (not_congr (i_le e1 e4)).mp c
      have c2 := (i_eq e3 z0).mp c2
      have es : st = 0 := by omega
      subst es
      refine ⟨dN D + 1, mk_L45 X ok' v1 v2 v4 (by omega) (by omega) (fun a2 ch x21 v3' x22 Z' I' L' hR e21 e3' e22 X' bd' f' cp' => ?_) (dN D + 1) 0 a' 0 1 0 Z I L (by omega) (by omega) rfl ⟨rfl, rfl⟩ rfl X bd FR.rf CP.rf⟩
      have f0' := f0.trans w0.1 w0.2.1 (f'.mono (by decide : ∀ p ∈ Ws_X12_findBest, p ∈ Ws_X12_market))
      have cp0' := CP.trans f0.1 cp0 cp'
      by_cases c0 : ch = 0
      · rw [if_pos c0] at e21 e3'
        exact ih (j + 1) a2 g 1 x21 v3' x22 Z' I' L' (by omega) (by omega) (by omega) ⟨a', g, 0, hM, Or.inr ⟨rfl, ch, hR, Or.inl ⟨c0, rfl, rfl⟩⟩⟩ (by omega) (by omega) X' bd' f0' cp0'
      · rw [if_neg c0] at e21 e3'
        exact ih (j + 1) a2 (g + 1) 0 x21 v3' x22 Z' I' L' (by omega) (by omega) (by omega) ⟨a', g, 0, hM, Or.inr ⟨rfl, ch, hR, Or.inr ⟨c0, rfl, rfl⟩⟩⟩ (by omega) (by omega) X' bd' f0' cp0'
/-- the market, to the reference -/
def MKd (D : DAT) (a : Nat → Int32) (v1 : Int32) (r : Int) (a' : Nat → Int32) : Prop := ((dN D = 0 ∨ ¬ (1 ≤ v1.toInt ∧ v1.toInt ≤ 3)) ∧ r = -1 ∧ a' = a) ∨ (1 ≤ dN D ∧ (1 ≤ v1.toInt ∧ v1.toInt ≤ 3) ∧ ∃ g st : Nat, MKm D v1.toInt.toNat a a' g st ∧ r = (g : Int))
theorem MKd_fun {D : DAT} {a a' a'' : Nat → Int32} {v1 : Int32} {r r' : Int} (d : DOK D) (ok : aOK a) (h : MKd D a v1 r a') (h' : MKd D a v1 r' a'') : r = r' ∧ a' = a'' := by
  rcases h with ⟨c, e, f⟩ | ⟨c1, c2, g, st, q, e⟩
  · rcases h' with ⟨_, e', f'⟩ | ⟨c1', c2', _⟩
    · exact ⟨by rw [e, e'], by rw [f, f']⟩
    · rcases c with c | c
      · omega
      · exact absurd c2' c
  · rcases h' with ⟨c, _, _⟩ | ⟨_, _, g', st', q', e'⟩
    · rcases c with c | c
      · omega
      · exact absurd c2 c
    · obtain ⟨x1, x2, x3⟩ := MKm_fun d ok _ _ _ _ _ _ _ q q'
      exact ⟨by rw [e, e', x2], x1⟩
theorem r_X12_market {B : Nat × Nat} {T : Nat} {L : jL} {Z : jZ} {I : jI} {v0 t1 t2 t3 t4 t5 t6 t9 t10 t11 t12 t13 t29 t30 uX0 uX1 : Nat} {s0 s1 : Int} {D : DAT} {a : Nat → Int32} (X : RFM Z I v0 t1 t2 t3 t4 t5 t6 t9 t10 t11 t12 t13 t29 t30 uX0 uX1 s0 s1 D a) (ok : aOK a) (bd : BUD B Z T) (v1 : Int32) {Q : Int32 → jZ → jI → jL → Prop}
    (hQ : ∀ (r : Int32) (Z' : jZ) (I' : jI) (L' : jL) (a' : Nat → Int32), MKd D a v1 r.toInt a' → aOK a' → RFM Z' I' v0 t1 t2 t3 t4 t5 t6 t9 t10 t11 t12 t13 t29 t30 uX0 uX1 s0 s1 D a' → BUD B Z' T → FR Ws_X12_market Z I Z' I' → CP Z Z' → Q r Z' I' L') : f_X12_market B v0 v1 Z I L Q := by
  have z1 : (1 : Int32).toInt = 1 := rfl
  have z0 : (0 : Int32).toInt = 0 := rfl
  have z3 : (3 : Int32).toInt = 3 := rfl
  have w := X.w
  have kv := X.S.1
  unfold f_X12_market
  intro I51 e51
  have w51 : WD Z I51 := by rw [e51]; exact WD_putF w 12 22 kv (by decide) (by decide) trivial
  have f51 : FR [(12, 22)] Z I Z I51 := by rw [e51]; exact FR_putF kv (by decide) List.mem_cons_self
  have X1 := X.fr w51 f51 (by decide) (by decide)
  have f0 : FR Ws_X12_market Z I Z I51 := f51.mono (by decide)
  have bad : ∀ L', (dN D = 0 ∨ ¬ (1 ≤ v1.toInt ∧ v1.toInt ≤ 3)) → Q (-1 : Int32) Z I51 L' := fun L' h => hQ _ Z I51 L' a (Or.inl ⟨h, rfl, rfl⟩) ok X1 bd f0 CP.rf
  refine ⟨fun c => bad _ (Or.inl ?_), fun c => ?_⟩
  · have c := (i_eq X1.hn z0).mp c
    omega
  · have c := (not_congr (i_eq X1.hn z0)).mp c
    refine s_X12_in w51 v1 1 3 (fun r hr => ?_)
    refine ⟨fun c2 => ?_, fun c2 => bad _ (Or.inr ?_)⟩
    · have c2 := (not_congr (i_eq rfl z0)).mp c2
      rcases hr with ⟨_, g1, g2⟩ | ⟨g, _⟩
      · refine ⟨v1.toInt.toNat + 1, mk_L30 w ok v1 v1.toInt.toNat (by omega) (by omega) (fun r' Z' I' L' a' g st hM er X' bd' f' cp' => hQ r' Z' I' L' a' (Or.inr ⟨by omega, ⟨by omega, by omega⟩, g, st, hM, er⟩) (MKm_ok ok _ _ _ _ hM) X' bd' f' cp') (v1.toInt.toNat + 1) 0 a 0 0 0 0 0 Z I51 L (by omega) (by omega) rfl ⟨rfl, rfl, rfl⟩ rfl rfl X1 bd f0 CP.rf⟩
      · omega
    · have c2 := (i_eq rfl z0).mp c2
      rcases hr with ⟨g, _⟩ | ⟨_, g⟩
      · omega
      · intro h
        exact g ⟨by omega, by omega⟩
/-! ===== moves measured again when a STEP asks something else ===== -/
def Wms : List (Nat × Nat) := [(3, 2), (6, 4), (6, 5), (8, 8)]
theorem W_ml : ∀ p ∈ Wms, p ∈ Wl := by decide
/-- moves measured: those to the places X, those to places below p, and those to p of less than far -/
def MSX (X : Nat → Prop) (I : jI) (u4 u5 lp n : Nat) (op : Nat → Prop) (C E : Nat → Nat → Int) (p far : Nat) : Prop := ∀ p' f : Nat, p' ≤ n → alw lp op p' f → (X p' ∨ p' < p ∨ (p' = p ∧ f < far)) → (I u4 (3 * p' + f - 1)).toInt = C p' f ∧ (I u5 (3 * p' + f - 1)).toInt = E p' f
set_option maxHeartbeats 4000000 in
theorem c_mea_L22 {Z : jZ} {I0 I2 : jI} {v0 v8 u0 u1 lp n : Nat} {ld : Int} {PR : Int → Int → Int → Int → Int → Int} {H G : Int → Int} (S : SQ Z I0 v0 v8 u0 u1 lp n ld PR H G) (X : Nat → Prop) (u4 u5 u6 : Nat) (g4 : jr Z v0 4 = some u4) (g5 : jr Z v0 5 = some u5) (g6 : jr Z v0 6 = some u6) (op : Nat → Prop) (p : Nat) (hp1 : 1 ≤ p) (hpn : p ≤ n) (v2 v3 : Int32) (e3v : v3.toInt = (p : Int)) {K6 : Nat → Int32 → Int32 → jI → jL → Prop} {Q : jI → jL → Prop}
    (hk : ∀ (x : Int32) (I' : jI) (L' : jL), x.toInt = ((p + 1 : Nat) : Int) → WD Z I' → FR Wms Z I0 Z I' → I' u6 = I2 u6 → I' v0 = I2 v0 → MSX X I' u4 u5 lp n op (CCp PR ld) (EEp H G ld) (p + 1) 1 → K6 v0 v2 x I' L') :
    ∀ (k far : Nat) (v4 : Int32) (I : jI) (L : jL), 1 ≤ far → far ≤ 4 → 5 ≤ k + far → v4.toInt = (far : Int) → WD Z I → FR Wms Z I0 Z I → I u6 = I2 u6 → I v0 = I2 v0 → (I v0 14).toInt = ld → (I u6 p ≠ 0 ↔ op p) → MSX X I u4 u5 lp n op (CCp PR ld) (EEp H G ld) p far → f_X6_measure_L22 K6 Z Q k v0 v2 v3 v4 I L := by
  have z0 : (0 : Int32).toInt = 0 := rfl
  have z1 : (1 : Int32).toInt = 1 := rfl
  have z3 : (3 : Int32).toInt = 3 := rfl
  have n24 := S.n24
  have lp3 := S.lp3
  obtain ⟨c4, c5, c6, c7, x4, x5, x6, x7, k4, k5, k6, k7, l4, l5, l6, l7, n4, n5, n6, n7, n45, n46, n47, n56, n57, n67⟩ := rou_at S.w0 S.kv
  cases g4.symm.trans x4; cases g5.symm.trans x5; cases g6.symm.trans x6
  have qn : v3.toNatClampNeg = p := by have := i_nat e3v (by omega); omega
  intro k
  induction k with
  | zero => intro far v4 I L h1 h4 hk5; omega
  | succ k ih =>
    intro far v4 I L h1 h4 hk5 e4v w f i6 i0 i14 iop hm
    have m3 : (I v0 3).toInt = (lp : Int) := by rw [f.2.2.1 v0 6 3 S.kv (by decide) (by decide)]; exact S.h3
    have fin : (∀ f', alw lp op p f' → f' < far) → f_X6_measure_b114 K6 Z Q v0 v2 v3 I L := fun hd => by
      unfold f_X6_measure_b114
      intro x ex
      refine hk x I L (by rw [ex]; exact (i_add e3v z1 (by omega) (by omega)).trans (by omega)) w f i6 i0 (fun p' f' h1 ha h2 => hm p' f' h1 ha ?_)
      rcases h2 with h2 | h2 | h2
      · exact Or.inl h2
      · by_cases c : p' = p
        · subst c
          exact Or.inr (Or.inr ⟨rfl, hd f' ha⟩)
        · exact Or.inr (Or.inl (by omega))
      · have := ha.1
        omega
    unfold f_X6_measure_L22
    refine ⟨fun c => fin (fun f' ha => ?_), fun c => ⟨fun c2 => fin (fun f' ha => ?_), fun c2 => ?_⟩⟩
    · have c := (i_lt m3 e4v).mp c
      have := ha.2.1
      omega
    · have c2 := (i_lt e3v e4v).mp c2
      have := ha.2.2.1
      omega
    have c := (not_congr (i_lt m3 e4v)).mp c
    have c2 := (not_congr (i_lt e3v e4v)).mp c2
    intro b h; cases g6.symm.trans h
    rw [qn]
    refine ⟨vi_of e3v (by omega) (by omega), fun c3 => fin (fun f' ha => absurd c3 (iop.mpr ha.2.2.2)), fun c3 => ?_⟩
    unfold f_X6_moveTo
    intro b h; cases g4.symm.trans h
    intro b h; cases S.h8.symm.trans h
    have t13 : (((v3 * (3 : Int32)) + v4) - (1 : Int32)).toInt = 3 * (p : Int) + (far : Int) - 1 := (i_sub (i_add (i_mul e3v z3 (by omega) (by omega)) e4v (by omega) (by omega)) z1 (by omega) (by omega)).trans (by omega)
    have n13 : (((v3 * (3 : Int32)) + v4) - (1 : Int32)).toNatClampNeg = 3 * p + far - 1 := by have := i_nat t13 (by omega); omega
    have vi : vp_in (((v3 * (3 : Int32)) + v4) - (1 : Int32)) 75 := vi_of t13 (by omega) (by omega)
    have tfr : ((v3 - v4) - (1 : Int32)).toInt = (p : Int) - (far : Int) - 1 := i_sub (i_sub e3v e4v (by omega) (by omega)) z1 (by omega) (by omega)
    have tto : (v3 - (1 : Int32)).toInt = (p : Int) - 1 := i_sub e3v z1 (by omega) (by omega)
    have f3 : 1 ≤ far ∧ far ≤ 3 := ⟨h1, by omega⟩
    rw [n13]
    refine r_X8_costOfMove_f S.w0 w v8 PR S.hP S.bP (f.mono W_ml) _ _ _ _ _ ld tfr tto i14 (by omega) (by omega) (by omega) (by omega) (by omega) (fun r I' L' w' f' er => ?_)
    have er : r.toInt = CCp PR ld p far := by
      rw [er]
      unfold CCp
      rw [if_pos f3]
    have rr := CCp_rng S.bP (ld := ld) p far
    refine ⟨vi, fun I24 e24 => ?_⟩
    have w24 : WD Z I24 := by
      rw [e24]
      exact WD_putA w' 6 4 S.kv g4 k4 rfl rfl (by decide) (show rg 0 297 r from ⟨by omega, by omega⟩)
    have f24 : FR Wms Z I' Z I24 := by
      rw [e24]
      exact FR_putA w'.2.1 S.kv g4 k4 rfl rfl (by decide)
    have fa : FR Wms Z I0 Z I24 := FR.trans S.w0.1 S.w0.2.1 f (FR.trans w.1 w.2.1 (f'.mono (by decide)) f24)
    have p6 : I24 u6 = I u6 := by rw [e24, jpI_ne n46.symm]; exact f'.2.2.2 v0 6 6 u6 S.kv g6 (by rw [k6.2]; rfl) rfl (by decide)
    have p5 : I24 u5 = I u5 := by rw [e24, jpI_ne n45.symm]; exact f'.2.2.2 v0 6 5 u5 S.kv g5 (by rw [k5.2]; rfl) rfl (by decide)
    have p4 : I' u4 = I u4 := f'.2.2.2 v0 6 4 u4 S.kv g4 (by rw [k4.2]; rfl) rfl (by decide)
    have p0 : I24 v0 = I v0 := by
      rw [e24, jpI_ne n4]
      funext j
      exact f'.2.2.1 v0 6 j S.kv (by decide) (by simp [Ws_X8_priceOf])
    intro b h; cases g5.symm.trans h
    intro b h; cases S.h8.symm.trans h
    have g9 : (I24 v8 9).toInt = (n : Int) := by rw [fa.2.2.1 v8 8 9 S.k8 (by decide) (by decide)]; exact S.h9
    have s0 : I24 u0 = I0 u0 := by
      obtain ⟨x, ex, kx, -⟩ := sh_f S.w0.1 S.k8 (j := 0) (k := 14) (m := 24) rfl
      cases S.h0.symm.trans ex
      exact fa.2.2.2 v8 8 0 u0 S.k8 S.h0 (by rw [kx.2]; rfl) rfl (by decide)
    have s1 : I24 u1 = I0 u1 := by
      obtain ⟨x, ex, kx, -⟩ := sh_f S.w0.1 S.k8 (j := 1) (k := 14) (m := 24) rfl
      cases S.h1.symm.trans ex
      exact fa.2.2.2 v8 8 1 u1 S.k8 S.h1 (by rw [kx.2]; rfl) rfl (by decide)
    refine r_X8_effortOfMove_f w24 v8 u0 u1 S.k8 S.h0 S.h1 (n : Int) g9 H G (by rw [s0]; exact S.hH) (by rw [s1]; exact S.hG) S.bH S.bG _ _ _ _ _ ld tfr tto (by rw [p0]; exact i14) (by omega) (by omega) (by omega) (by omega) (by omega) S.l50 (fun r33 er33 => ?_)
    have er33 : r33.toInt = EEp H G ld p far := by
      rw [er33]
      unfold EEp
      rw [if_pos f3]
    refine ⟨vi, fun I35 e35 x36 e36 => ?_⟩
    have w35 : WD Z I35 := by
      rw [e35]
      exact WD_putA w24 6 5 S.kv g5 k5 rfl rfl (by decide) trivial
    have f35 : FR Wms Z I24 Z I35 := by
      rw [e35]
      exact FR_putA w24.2.1 S.kv g5 k5 rfl rfl (by decide)
    have q6 : I35 u6 = I u6 := by rw [e35, jpI_ne n56.symm]; exact p6
    have q0 : I35 v0 = I v0 := by rw [e35, jpI_ne n5]; exact p0
    refine ih (far + 1) x36 I35 _ (by omega) (by omega) (by omega) (by rw [e36]; exact (i_add e4v z1 (by omega) (by omega)).trans (by omega)) w35 (FR.trans S.w0.1 S.w0.2.1 fa f35) (q6.trans i6) (q0.trans i0) (by rw [q0]; exact i14) (by rw [q6]; exact iop) (fun p' f' h1' ha h2 => ?_)
    have hfa := ha.1
    have hfb := ha.2.1
    by_cases c9 : p' = p ∧ f' = far
    · rw [c9.1, c9.2]
      refine ⟨?_, ?_⟩
      · rw [e35, jpI_ne n45, e24, jpI_at]
        exact er
      · rw [e35, jpI_at]
        exact er33
    · have old := hm p' f' h1' ha (h2.elim Or.inl (fun h2 => Or.inr (by omega)))
      refine ⟨?_, ?_⟩
      · rw [e35, jpI_ne n45, e24, jpI_off (by omega), p4]
        exact old.1
      · rw [e35, jpI_off (by omega), p5]
        exact old.2
theorem c_mea_L6 {Z : jZ} {I0 I2 : jI} {v0 v8 u0 u1 lp n : Nat} {ld : Int} {PR : Int → Int → Int → Int → Int → Int} {H G : Int → Int} (S : SQ Z I0 v0 v8 u0 u1 lp n ld PR H G) (X : Nat → Prop) (u4 u5 u6 : Nat) (g4 : jr Z v0 4 = some u4) (g5 : jr Z v0 5 = some u5) (g6 : jr Z v0 6 = some u6) (op : Nat → Prop) (i14 : (I2 v0 14).toInt = ld) (i15 : (I2 v0 15).toInt = (n : Int)) (iop : ∀ p, p ≤ n → (I2 u6 p ≠ 0 ↔ op p)) (v2 : Int32) (hi : Nat) (e2v : v2.toInt = (hi : Int)) {Q : jI → jL → Prop}
    (hQ : ∀ (I' : jI) (L' : jL) (p : Nat), WD Z I' → FR Wms Z I0 Z I' → I' u6 = I2 u6 → I' v0 = I2 v0 → (hi < p ∨ n < p) → MSX X I' u4 u5 lp n op (CCp PR ld) (EEp H G ld) p 1 → Q I' L') :
    ∀ (k p : Nat) (v3 : Int32) (I : jI) (L : jL), 1 ≤ p → p ≤ n + 1 → n + 2 ≤ k + p → v3.toInt = (p : Int) → WD Z I → FR Wms Z I0 Z I → I u6 = I2 u6 → I v0 = I2 v0 → MSX X I u4 u5 lp n op (CCp PR ld) (EEp H G ld) p 1 → f_X6_measure_L6 Z Q k v0 v2 v3 I L := by
  intro k
  induction k with
  | zero => intro p v3 I L h1 h2 h3; omega
  | succ k ih =>
    intro p v3 I L h1 h2 h3 e3v w f i6 i0 hm
    unfold f_X6_measure_L6
    have j15 : (I v0 15).toInt = (n : Int) := by rw [i0]; exact i15
    refine ⟨fun c => ?_, fun c => ⟨fun c2 => ?_, fun c2 => ?_⟩⟩
    · have c := (i_lt e2v e3v).mp c
      exact hQ I L p w f i6 i0 (Or.inl (by omega)) hm
    · have c2 := (i_lt j15 e3v).mp c2
      exact hQ I L p w f i6 i0 (Or.inr (by omega)) hm
    have c2 := (not_congr (i_lt j15 e3v)).mp c2
    exact ⟨5, c_mea_L22 S X u4 u5 u6 g4 g5 g6 op p h1 (by omega) v2 v3 e3v (fun x I' L' ex w' f' a6 a0 hm' => ih (p + 1) x I' L' (by omega) (by omega) (by omega) ex w' f' a6 a0 hm') 5 1 1 I L (Nat.le_refl _) (by omega) (by omega) rfl w f i6 i0 (by rw [i0]; exact i14) (by rw [i6]; exact iop p (by omega)) hm⟩
theorem r_X6_measure {Z : jZ} {I0 : jI} {L : jL} {v0 v8 u0 u1 lp n : Nat} {ld : Int} {PR PR' : Int → Int → Int → Int → Int → Int} {H G : Int → Int} (S : SQ Z I0 v0 v8 u0 u1 lp n ld PR' H G) {u4 u5 u6 u7 : Nat} {op : Nat → Prop} {lu : Nat → Int} (hM : MVs Z I0 v0 u4 u5 u6 u7 lp n op (CCp PR ld) (EEp H G ld) lu) (i14 : (I0 v0 14).toInt = ld) (s : Nat) (hs : s < n) (cg : ∀ lw st fr lp, 0 ≤ st → st ≠ (s : Int) → PR' lw st fr lp ld = PR lw st fr lp ld) (v1 v2 : Int32) (e1 : v1.toInt = ((s + 1 : Nat) : Int)) (e2 : v2.toInt = ((s + 3 : Nat) : Int)) {Q : jI → jL → Prop}
    (hQ : ∀ (I' : jI) (L' : jL), WD Z I' → FR Wms Z I0 Z I' → MVs Z I' v0 u4 u5 u6 u7 lp n op (CCp PR' ld) (EEp H G ld) lu → Q I' L') : f_X6_measure v0 v1 v2 Z I0 L Q := by
  obtain ⟨⟨g4, g5, g6, g7⟩, m3, m15, mo, mm, mu⟩ := hM
  have n24 := S.n24
  have lp3 := S.lp3
  have z1 : (1 : Int32).toInt = 1 := rfl
  obtain ⟨x, ex, k7, -⟩ := sh_f S.w0.1 S.kv (j := 7) (k := 14) (m := 25) rfl
  cases g7.symm.trans ex
  unfold f_X6_measure
  intro x40 e40
  have c1 : ¬ v1 < 1 := (not_congr (i_lt e1 z1)).mpr (by omega)
  rw [if_neg c1] at e40
  rw [← e40] at e1
  refine ⟨n + 2, c_mea_L6 S (fun p' => p' ≤ s ∨ s + 3 < p') u4 u5 u6 g4 g5 g6 op i14 m15 mo v2 (s + 3) e2 (fun I' L' p w' f' i6 i0 hp hm => ?_) (n + 2) (s + 1) x40 I0 L (by omega) (by omega) (by omega) e1 S.w0 FR.rf rfl rfl (fun p' f hp' ha h2 => ?_)⟩
  · refine hQ I' L' w' f' ⟨⟨g4, g5, g6, g7⟩, by rw [i0]; exact m3, by rw [i0]; exact m15, by rw [i6]; exact mo, fun p' far ha hp' => ?_, fun p' hp' => ?_⟩
    · refine hm p' far hp' ha ?_
      by_cases c : p' ≤ s ∨ s + 3 < p'
      · exact Or.inl c
      · exact Or.inr (Or.inl (by omega))
    · rw [f'.2.2.2 v0 6 7 u7 S.kv g7 (by rw [k7.2]; rfl) rfl (by decide)]
      exact mu p' hp'
  · obtain ⟨a1, a2⟩ := mm p' f ha hp'
    refine ⟨a1.trans (CC_same cg p' f ha.1 ha.2.2.1 ?_).symm, a2⟩
    have h3 := ha.1
    have h4 := ha.2.1
    rcases h2 with (h2 | h2) | h2 | h2 <;> omega
set_option maxHeartbeats 2000000 in
theorem c_lay2_L104 {Z : jZ} {I0 I2 : jI} {v0 v8 u0 u1 lp n : Nat} {ld : Int} {PR : Int → Int → Int → Int → Int → Int} {H G : Int → Int} (S : SQ Z I0 v0 v8 u0 u1 lp n ld PR H G) (u4 u5 u6 u7 : Nat) (g4 : jr Z v0 4 = some u4) (g5 : jr Z v0 5 = some u5) (g6 : jr Z v0 6 = some u6) (g7 : jr Z v0 7 = some u7) (op : Nat → Prop) (iop : ∀ p, p ≤ n → (I2 u6 p ≠ 0 ↔ op p)) (i15 : (I2 v0 15).toInt = (n : Int)) (i14 : (I2 v0 14).toInt = ld) (hm : MSD I2 u4 u5 lp n op (CCp PR ld) (EEp H G ld) (n + 1) 1) {Q : jI → jL → Prop}
    (hQ : ∀ (I' : jI) (L' : jL), WD Z I' → FR Wl Z I0 Z I' → LAID Z I' v0 u4 u5 u6 u7 lp n op (CCp PR ld) (EEp H G ld) → (I' v0 14).toInt = ld → Q I' L') :
    ∀ (k p : Nat) (v4 : Int32) (I : jI) (L : jL), p ≤ n + 1 → p + 1 ≤ k → v4.toInt = (p : Int) - 1 → WD Z I → FR Wl Z I0 Z I → (∀ x, x ≠ u7 → I x = I2 x) → LUT I u7 lp n op (EEp H G ld) p → f_X6_lay_L104 Z Q k v0 v4 I L := by
  have z0 : (0 : Int32).toInt = 0 := rfl
  have zm : (-1 : Int32).toInt = -1 := by decide
  have n24 := S.n24
  obtain ⟨c4, c5, c6, c7, x4, x5, x6, x7, k4, k5, k6, k7, l4, l5, l6, l7, n4, n5, n6, n7, n45, n46, n47, n56, n57, n67⟩ := rou_at S.w0 S.kv
  cases g4.symm.trans x4; cases g5.symm.trans x5; cases g6.symm.trans x6; cases g7.symm.trans x7
  intro k
  induction k with
  | zero => intro p v4 I L h1 h2; omega
  | succ k ih =>
    intro p v4 I L h1 h2 e4v w f hx hT
    have m3 : (I v0 3).toInt = (lp : Int) := by rw [f.2.2.1 v0 6 3 S.kv (by decide) (by decide)]; exact S.h3
    have j15 : (I v0 15).toInt = (n : Int) := by rw [hx v0 n7]; exact i15
    have jop : ∀ p, p ≤ n → (I u6 p ≠ 0 ↔ op p) := by rw [hx u6 n67]; exact iop
    have jm : MSD I u4 u5 lp n op (CCp PR ld) (EEp H G ld) (n + 1) 1 := by
      unfold MSD
      rw [hx u4 n47, hx u5 n57]
      exact hm
    unfold f_X6_lay_L104
    refine ⟨fun c => ?_, fun c => ?_⟩
    · have c := (i_lt e4v z0).mp c
      have e : p = 0 := by omega
      rw [e] at hT
      exact hQ I L w f (LAID_of ⟨g4, g5, g6, g7⟩ m3 j15 jop jm hT) (by rw [hx v0 n7]; exact i14)
    have c := (not_congr (i_lt e4v z0)).mp c
    obtain ⟨q, rfl⟩ : ∃ q, p = q + 1 := ⟨p - 1, by omega⟩
    have e4 : v4.toInt = (q : Int) := by omega
    have n4' : v4.toNatClampNeg = q := by have := i_nat e4 (by omega); omega
    intro b h; cases g7.symm.trans h
    refine r_X6_leastEffortUp v0 u5 u6 u7 lp n g5 g6 g7 op _ (EEp_rng S.bH S.bG S.l50) m3 j15 S.lp3 n24 jop (fun p far ha hp => (jm p far hp ha (Or.inl (by omega))).2) q (by omega) v4 e4 hT (fun r r1 r2 r3 => ?_)
    refine ⟨vi_of e4 (by omega) (by omega), fun I11 e11 x12 e12 => ?_⟩
    rw [n4'] at e11
    refine ih q x12 I11 L (by omega) (by omega) (by rw [e12]; exact (i_add e4 zm (by omega) (by omega)).trans (by omega)) ?_ ?_ (fun x hx' => by rw [e11, jpI_ne hx']; exact hx x hx') (fun q' h1' h2' => ?_)
    · rw [e11]
      exact WD_putA w 6 7 S.kv g7 k7 rfl rfl (by decide) trivial
    · refine FR.trans S.w0.1 S.w0.2.1 f ?_
      rw [e11]
      exact FR_putA w.2.1 S.kv g7 k7 rfl rfl (by decide)
    · have off : ∀ j, j ≠ q → I11 u7 j = I u7 j := fun j hj => by rw [e11, jpI_off hj]
      by_cases c9 : q' = q
      · subst c9
        have at_ : I11 u7 q' = r := by rw [e11, jpI_at]
        rw [at_]
        refine ⟨r1, r2, fun far f1 f2 f3 o1 o2 => ?_⟩
        rw [off _ (by omega)]
        exact r3 far f1 f2 f3 o1 o2
      · rw [off _ c9]
        have old := hT q' (by omega) h2'
        refine ⟨old.1, old.2.1, fun far f1 f2 f3 o1 o2 => ?_⟩
        rw [off _ (by omega)]
        exact old.2.2 far f1 f2 f3 o1 o2
set_option maxHeartbeats 4000000 in
theorem c_lay2_L31 {Z : jZ} {I0 : jI} {v0 v8 v4s u0 u1 lp n : Nat} {ld : Int} {PR : Int → Int → Int → Int → Int → Int} {H G : Int → Int} (S : SQ Z I0 v0 v8 u0 u1 lp n ld PR H G) (h4s : jr Z v8 4 = some v4s) (MN : Nat → Int32) (hMN : MNC Z I0 v4s n MN) (vow : Int32) (cl : Int) (v3 : Int32) (e3v : v3.toInt = cl) (u4 u5 u6 u7 : Nat) (g4 : jr Z v0 4 = some u4) (g5 : jr Z v0 5 = some u5) (g6 : jr Z v0 6 = some u6) (g7 : jr Z v0 7 = some u7) {Q : jI → jL → Prop}
    (hQ : ∀ (I' : jI) (L' : jL), WD Z I' → FR Wl Z I0 Z I' → LAID Z I' v0 u4 u5 u6 u7 lp n (opF vow MN cl) (CCp PR ld) (EEp H G ld) → (I' v0 14).toInt = ld → Q I' L') :
    ∀ (k p : Nat) (v4 : Int32) (I : jI) (L : jL), 1 ≤ p → p ≤ n + 1 → n + 2 ≤ k + p → v4.toInt = (p : Int) → WD Z I → FR Wl Z I0 Z I → (I v0 14).toInt = ld → (I v0 15).toInt = (n : Int) → (∀ q, q < p → (I u6 q ≠ 0 ↔ opF vow MN cl q)) → f_X6_lay_L31 Z Q k v0 vow v3 v4 I L := by
  have z0 : (0 : Int32).toInt = 0 := rfl
  have z1 : (1 : Int32).toInt = 1 := rfl
  have n24 := S.n24
  obtain ⟨c4, c5, c6, c7, x4, x5, x6, x7, k4, k5, k6, k7, l4, l5, l6, l7, n4, n5, n6, n7, n45, n46, n47, n56, n57, n67⟩ := rou_at S.w0 S.kv
  cases g4.symm.trans x4; cases g5.symm.trans x5; cases g6.symm.trans x6; cases g7.symm.trans x7
  intro k
  induction k with
  | zero => intro p v4 I L h1 h2 h3; omega
  | succ k ih =>
    intro p v4 I L h1 h2 h3 e4v w f i14 i15 iop
    unfold f_X6_lay_L31
    refine ⟨fun c => ?_, fun c => ?_⟩
    · have c := (i_lt i15 e4v).mp c
      have ep : p = n + 1 := by omega
      rw [ep] at iop
      have jop : ∀ q, q ≤ n → (I u6 q ≠ 0 ↔ opF vow MN cl q) := fun q hq => iop q (by omega)
      unfold f_X6_measure
      intro x40 e40
      have t40 : x40.toInt = ((1 : Nat) : Int) := by rw [e40]; rfl
      refine ⟨n + 1, c_meas_L6 S u4 u5 u6 g4 g5 g6 (opF vow MN cl) (I2 := I) i14 i15 jop (I v0 15) i15 (fun I19 L20 w19 f19 a6 a0 hm => ?_) (n + 1) 1 x40 I L (Nat.le_refl _) (by omega) (by omega) t40 w f rfl rfl (fun p' f' _ ha hlt => ?_)⟩
      · intro x23 e23
        have b15 : (I19 v0 15).toInt = (n : Int) := by rw [a0]; exact i15
        exact ⟨n + 2, c_lay2_L104 S u4 u5 u6 u7 g4 g5 g6 g7 (opF vow MN cl) (I2 := I19) (by rw [a6]; exact jop) b15 (by rw [a0]; exact i14) hm hQ (n + 2) (n + 1) x23 I19 L20 (Nat.le_refl _) (Nat.le_refl _) (by rw [e23, b15]; omega) w19 f19 (fun _ _ => rfl) (fun q h1 h2 => by omega)⟩
      · have h1 := ha.1
        have h2 := ha.2.2.1
        omega
    have c := (not_congr (i_lt i15 e4v)).mp c
    have n4v : v4.toNatClampNeg = p := by have := i_nat e4v (by omega); omega
    intro x25 e25
    have t25 : x25.toInt = ((p - 1 : Nat) : Int) := by
      rw [e25]
      exact (i_sub e4v z1 (by omega) (by omega)).trans (by omega)
    have put : ∀ s2 : Int32, (vp_nar .boolean s2 ≠ 0 ↔ opF vow MN cl p) → f_X6_lay_b82 (f_X6_lay_L31 Z Q k) Z Q v0 vow v3 v4 u6 v4 s2 I L := fun s2 hs => by
      unfold f_X6_lay_b82
      refine ⟨by rw [l6]; exact vi_of e4v (by omega) (by omega), fun I14 e14 x15 e15 => ?_⟩
      rw [n4v] at e14
      refine ih (p + 1) x15 I14 L (by omega) (by omega) (by omega) (by rw [e15]; exact (i_add e4v z1 (by omega) (by omega)).trans (by omega)) ?_ ?_ (by rw [e14, jpI_ne n6]; exact i14) (by rw [e14, jpI_ne n6]; exact i15) (fun q hq => ?_)
      · rw [e14]
        exact WD_putA w 6 6 S.kv g6 k6 rfl rfl (by decide) trivial
      · refine FR.trans S.w0.1 S.w0.2.1 f ?_
        rw [e14]
        exact FR_putA w.2.1 S.kv g6 k6 rfl rfl (by decide)
      · rw [e14]
        by_cases c9 : q = p
        · rw [c9, jpI_at]
          exact hs
        · rw [jpI_off c9]
          exact iop q (by omega)
    have shut : ¬ opF vow MN cl p → f_X6_lay_b81 (f_X6_lay_L31 Z Q k) Z Q v0 vow v3 v4 u6 v4 I L := fun hn => by
      unfold f_X6_lay_b81
      exact put 0 ⟨fun q => absurd nar_0 q, fun q => absurd q hn⟩
    intro b h; cases g6.symm.trans h
    refine ⟨fun c2 => shut (fun o => ?_), fun c2 => ?_⟩
    · have c2 := (i_eq t25 e3v).mp c2
      rcases o with o | o
      · omega
      · exact o.2.1 (by omega)
    have c2 := (not_congr (i_eq t25 e3v)).mp c2
    intro b h; cases S.h8.symm.trans h
    intro b h; cases h4s.symm.trans h
    refine hMN x25 (p - 1) I L _ w f t25 (by omega) ⟨fun c3 => shut (fun o => ?_), fun c3 => ?_⟩
    · rcases o with o | o
      · omega
      · exact c3 o.2.2
    · refine put 1 ⟨fun _ => Or.inr ⟨h1, by omega, c3⟩, fun _ q => ?_⟩
      rw [nar_1] at q
      exact absurd q (by decide)
set_option maxHeartbeats 2000000 in
theorem r_X6_lay2 {Z : jZ} {I0 : jI} {L : jL} {v0 v8 v4s u0 u1 lp n : Nat} {ld : Int} {PR : Int → Int → Int → Int → Int → Int} {H G : Int → Int} (S : SQ Z I0 v0 v8 u0 u1 lp n ld PR H G) (h4s : jr Z v8 4 = some v4s) (MN : Nat → Int32) (hMN : MNC Z I0 v4s n MN) (v1 vow v3 : Int32) (cl : Int) (e1v : v1.toInt = ld) (e3v : v3.toInt = cl) {Q : jI → jL → Prop}
    (hQ : ∀ (I' : jI) (L' : jL) (u4 u5 u6 u7 : Nat), WD Z I' → FR Wl Z I0 Z I' → LAID Z I' v0 u4 u5 u6 u7 lp n (opF vow MN cl) (CCp PR ld) (EEp H G ld) → (I' v0 14).toInt = ld → Q I' L') : f_X6_lay v0 v1 vow v3 Z I0 L Q := by
  have z0 : (0 : Int32).toInt = 0 := rfl
  have z24 : (24 : Int32).toInt = 24 := rfl
  have n24 := S.n24
  obtain ⟨u4, u5, u6, u7, g4, g5, g6, g7, k4, k5, k6, k7, l4, l5, l6, l7, n4, n5, n6, n7, n45, n46, n47, n56, n57, n67⟩ := rou_at S.w0 S.kv
  have n08 : v8 ≠ v0 := fun q => by
    have h := S.k8.2
    rw [q] at h
    have := S.kv.2.symm.trans h
    omega
  unfold f_X6_lay
  intro I38 e38
  have w38 : WD Z I38 := by rw [e38]; exact WD_putF S.w0 6 14 S.kv (by decide) (by decide) trivial
  have f38 : FR Wl Z I0 Z I38 := by rw [e38]; exact FR_putF S.kv (by decide) (by decide)
  intro b h; cases S.h8.symm.trans h
  intro I40 e40
  have a9 : (I38 v8 9).toInt = (n : Int) := by rw [e38, jpI_ne n08]; exact S.h9
  have tm : (if (24 : Int32) < (I38 v8 9) then (24 : Int32) else (I38 v8 9)).toInt = (n : Int) := by
    rw [if_neg (fun c => ?_)]
    · exact a9
    · have c := (i_lt z24 a9).mp c
      omega
  have w40 : WD Z I40 := by rw [e40]; exact WD_putF w38 6 15 S.kv (by decide) (by decide) (show rg 0 24 _ from ⟨by rw [tm]; omega, by rw [tm]; omega⟩)
  have f40 : FR Wl Z I38 Z I40 := by rw [e40]; exact FR_putF S.kv (by decide) (by decide)
  intro b h; cases g6.symm.trans h
  intro I42 e42
  have q0 : (0 : Int32).toNatClampNeg = 0 := rfl
  rw [q0, nar_1] at e42
  have w42 : WD Z I42 := by rw [e42]; exact WD_putA w40 6 6 S.kv g6 k6 rfl rfl (by decide) trivial
  have f42 : FR Wl Z I40 Z I42 := by rw [e42]; exact FR_putA w40.2.1 S.kv g6 k6 rfl rfl (by decide)
  refine ⟨n + 1, c_lay2_L31 S h4s MN hMN vow cl v3 e3v u4 u5 u6 u7 g4 g5 g6 g7 (fun I' L' w' f' h' h14 => hQ I' L' u4 u5 u6 u7 w' f' h' h14) (n + 1) 1 (1 : Int32) I42 L (Nat.le_refl _) (by omega) (by omega) rfl w42 (FR.trans S.w0.1 S.w0.2.1 f38 (FR.trans w38.1 w38.2.1 f40 f42)) ?_ ?_ (fun q hq => ?_)⟩
  · rw [e42, jpI_ne n6, e40, jpI_off (by decide), e38, jpI_at]
    exact e1v
  · rw [e42, jpI_ne n6, e40, jpI_at]
    exact tm
  · have e : q = 0 := by omega
    rw [e, e42, jpI_at]
    exact ⟨fun _ => Or.inl rfl, fun _ => by decide⟩
/-! ===== feuds ===== -/
theorem fb_or : ∀ (M : Fin 256) (b : Fin 8), (Int32.ofNat M.val ||| ((1 : Int32) <<< (Int32.ofNat b.val &&& 31))) = Int32.ofNat (M.val ||| 2 ^ b.val) ∧ M.val ||| 2 ^ b.val < 256 := by decide +kernel
theorem fb_and : ∀ (M : Fin 256) (b : Fin 8), (Int32.ofNat M.val &&& (((1 : Int32) <<< (Int32.ofNat b.val &&& 31)) ^^^ (-1 : Int32))) = Int32.ofNat (M.val &&& (255 - 2 ^ b.val)) ∧ M.val &&& (255 - 2 ^ b.val) < 256 := by decide +kernel
theorem fb_or1 : ∀ (M : Fin 256) (b g : Fin 8), ((M.val ||| 2 ^ b.val) / 2 ^ g.val % 2 = 1 ↔ g.val = b.val ∨ M.val / 2 ^ g.val % 2 = 1) := by decide +kernel
theorem fb_and1 : ∀ (M : Fin 256) (b g : Fin 8), ((M.val &&& (255 - 2 ^ b.val)) / 2 ^ g.val % 2 = 1 ↔ ¬ g.val = b.val ∧ M.val / 2 ^ g.val % 2 = 1) := by decide +kernel
theorem fb_t : ∀ (M : Fin 256) (g : Fin 8), (((Int32.ofNat M.val >>> (Int32.ofNat g.val &&& 31)) &&& (1 : Int32)) = 0 ↔ ¬ M.val / 2 ^ g.val % 2 = 1) := by decide +kernel
/-- who is in feud with whom: F f g -/
def FEc (u : Nat → Int32) (F : Nat → Nat → Prop) : Prop := ∀ f, f < 8 → ∃ M : Nat, M < 256 ∧ u f = Int32.ofNat M ∧ ∀ g, g < 8 → (M / 2 ^ g % 2 = 1 ↔ F f g)
def FEm (t : Nat → Int32) (F : Nat → Nat → Prop) : Prop := ∀ f g, f < 8 → g < 8 → (t (8 * f + g) ≠ 0 ↔ F f g)
/-- the feuds once a and b are (or aren't) in feud -/
def FEs (F : Nat → Nat → Prop) (a b : Nat) (on : Prop) (f g : Nat) : Prop := if (f = a ∧ g = b) ∨ (f = b ∧ g = a) then on else F f g
theorem FEs_1 {F : Nat → Nat → Prop} {a b f g : Nat} {on : Prop} (h : (f = a ∧ g = b) ∨ (f = b ∧ g = a)) : FEs F a b on f g ↔ on := by
  unfold FEs
  rw [if_pos h]
theorem FEs_0 {F : Nat → Nat → Prop} {a b f g : Nat} {on : Prop} (h : ¬ ((f = a ∧ g = b) ∨ (f = b ∧ g = a))) : FEs F a b on f g ↔ F f g := by
  unfold FEs
  rw [if_neg h]
theorem FEs_back {F : Nat → Nat → Prop} {a b : Nat} {p q : Prop} (hs : ∀ f g, F f g → F g f) (h : F a b) : (∀ f g, FEs (FEs F a b p) a b True f g ↔ F f g) := fun f g => by
  by_cases c : (f = a ∧ g = b) ∨ (f = b ∧ g = a)
  · rw [FEs_1 c]
    rcases c with ⟨c1, c2⟩ | ⟨c1, c2⟩
    · rw [c1, c2]; exact ⟨fun _ => h, fun _ => trivial⟩
    · rw [c1, c2]; exact ⟨fun _ => hs _ _ h, fun _ => trivial⟩
  · rw [FEs_0 c, FEs_0 c]
/-- one bit -/
theorem FEc_bit {u u' : Nat → Int32} {F : Nat → Nat → Prop} {a b : Nat} {v : Int32} (ha : a < 8) (hb : b < 8) (eb : v.toInt = (b : Int)) (h : FEc u F) (on : Prop) (o : ∀ f, f ≠ a → u' f = u f) (e : (on ∧ u' a = u a ||| ((1 : Int32) <<< (v &&& 31))) ∨ (¬ on ∧ u' a = u a &&& (((1 : Int32) <<< (v &&& 31)) ^^^ (-1 : Int32)))) : FEc u' (fun f g => if f = a ∧ g = b then on else F f g) := by
  have ev : v = Int32.ofNat b := (i_eq eb (show (Int32.ofNat b).toInt = (b : Int) from i_nI (n := b) (by omega))).mpr rfl
  subst ev
  intro f hf
  obtain ⟨M, hM, eM, hg⟩ := h f hf
  by_cases c : f = a
  · subst c
    rcases e with ⟨on1, e⟩ | ⟨on0, e⟩
    · have q : (Int32.ofNat M ||| ((1 : Int32) <<< (Int32.ofNat b &&& 31))) = Int32.ofNat (M ||| 2 ^ b) ∧ M ||| 2 ^ b < 256 := fb_or ⟨M, hM⟩ ⟨b, hb⟩
      refine ⟨M ||| 2 ^ b, q.2, by rw [e, eM, q.1], fun g hg' => ?_⟩
      have t : ((M ||| 2 ^ b) / 2 ^ g % 2 = 1 ↔ g = b ∨ M / 2 ^ g % 2 = 1) := fb_or1 ⟨M, hM⟩ ⟨b, hb⟩ ⟨g, hg'⟩
      rw [t, hg g hg']
      show (g = b ∨ F f g) ↔ (if f = f ∧ g = b then on else F f g)
      by_cases d : g = b
      · rw [if_pos ⟨rfl, d⟩]; exact ⟨fun _ => on1, fun _ => Or.inl d⟩
      · rw [if_neg (fun q => d q.2)]; exact ⟨fun q => q.elim (fun q => absurd q d) id, Or.inr⟩
    · have q : (Int32.ofNat M &&& (((1 : Int32) <<< (Int32.ofNat b &&& 31)) ^^^ (-1 : Int32))) = Int32.ofNat (M &&& (255 - 2 ^ b)) ∧ M &&& (255 - 2 ^ b) < 256 := fb_and ⟨M, hM⟩ ⟨b, hb⟩
      refine ⟨M &&& (255 - 2 ^ b), q.2, by rw [e, eM, q.1], fun g hg' => ?_⟩
      have t : ((M &&& (255 - 2 ^ b)) / 2 ^ g % 2 = 1 ↔ ¬ g = b ∧ M / 2 ^ g % 2 = 1) := fb_and1 ⟨M, hM⟩ ⟨b, hb⟩ ⟨g, hg'⟩
      rw [t, hg g hg']
      show (¬ g = b ∧ F f g) ↔ (if f = f ∧ g = b then on else F f g)
      by_cases d : g = b
      · rw [if_pos ⟨rfl, d⟩]; exact ⟨fun q => absurd d q.1, fun q => absurd q on0⟩
      · rw [if_neg (fun q => d q.2)]; exact ⟨fun q => q.2, fun q => ⟨d, q⟩⟩
  · refine ⟨M, hM, by rw [o f c]; exact eM, fun g hg' => ?_⟩
    rw [hg g hg']
    show F f g ↔ (if f = a ∧ g = b then on else F f g)
    rw [if_neg (fun q => c q.1)]
theorem FEc_iff {u : Nat → Int32} {F G : Nat → Nat → Prop} (h : FEc u F) (e : ∀ f g, F f g ↔ G f g) : FEc u G := fun f hf => by
  obtain ⟨M, hM, eM, hg⟩ := h f hf
  exact ⟨M, hM, eM, fun g hg' => (hg g hg').trans (e f g)⟩
theorem FEm_iff {t : Nat → Int32} {F G : Nat → Nat → Prop} (h : FEm t F) (e : ∀ f g, F f g ↔ G f g) : FEm t G := fun f g hf hg => (h f g hf hg).trans (e f g)
set_option maxHeartbeats 1000000 in
theorem r_X8_quarrel {Z : jZ} {I : jI} {L : jL} (w : WD Z I) (v0 u5 : Nat) (kv : jk Z v0 8) (h5 : jr Z v0 5 = some u5) (v1 v2 v3 : Int32) (a b : Nat) (ha : a < 8) (hb : b < 8) (e1 : v1.toInt = (a : Int)) (e2 : v2.toInt = (b : Int)) (nab : a ≠ b) (F : Nat → Nat → Prop) (h : FEc (I u5) F) {Q : jI → jL → Prop}
    (hQ : ∀ (I' : jI) (L' : jL), WD Z I' → FR [(8, 5)] Z I Z I' → FEc (I' u5) (FEs F a b (v3 ≠ 0)) → Q I' L') : f_X8_quarrel v0 v1 v2 v3 Z I L Q := by
  obtain ⟨x, ex, k5, l5⟩ := sh_f w.1 kv (j := 5) (k := 14) (m := 8) rfl
  cases h5.symm.trans ex
  have z0 : (0 : Int32).toInt = 0 := rfl
  have n1 : v1.toNatClampNeg = a := by have := i_nat e1 (by omega); omega
  have n2 : v2.toNatClampNeg = b := by have := i_nat e2 (by omega); omega
  -- the second write
  have two : ∀ (I1 : jI), WD Z I1 → FR [(8, 5)] Z I Z I1 → FEc (I1 u5) (fun f g => if f = a ∧ g = b then v3 ≠ 0 else F f g) → ∀ y : Int32, ((v3 ≠ 0 ∧ y = I1 u5 b ||| ((1 : Int32) <<< (v1 &&& 31))) ∨ (¬ v3 ≠ 0 ∧ y = I1 u5 b &&& (((1 : Int32) <<< (v1 &&& 31)) ^^^ (-1 : Int32)))) → f_X8_quarrel_b83 Z Q u5 v2 y I1 L := by
    intro I1 w1 f1 h1 y ey
    unfold f_X8_quarrel_b83
    refine ⟨by rw [l5]; exact vi_of e2 (by omega) (by omega), fun I2 eI2 => ?_⟩
    rw [n2] at eI2
    refine hQ I2 L (by rw [eI2]; exact WD_putA w1 8 5 kv h5 k5 rfl rfl (by decide) trivial) (f1.trans w.1 w.2.1 (by rw [eI2]; exact FR_upA w1.2.1 kv h5 k5 rfl rfl List.mem_cons_self)) ?_
    refine FEc_iff (FEc_bit (v := v1) hb ha e1 h1 (v3 ≠ 0) (fun f hf => by rw [eI2, jpI_off hf]) (by rw [eI2, jpI_at]; exact ey)) (fun f g => ?_)
    show (if f = b ∧ g = a then v3 ≠ 0 else if f = a ∧ g = b then v3 ≠ 0 else F f g) ↔ FEs F a b (v3 ≠ 0) f g
    unfold FEs
    by_cases c1 : f = b ∧ g = a
    · rw [if_pos c1, if_pos (Or.inr c1)]
    · rw [if_neg c1]
      by_cases c2 : f = a ∧ g = b
      · rw [if_pos c2, if_pos (Or.inl c2)]
      · rw [if_neg c2, if_neg (fun q => q.elim c2 c1)]
  have one : ∀ y : Int32, ((v3 ≠ 0 ∧ y = I u5 a ||| ((1 : Int32) <<< (v2 &&& 31))) ∨ (¬ v3 ≠ 0 ∧ y = I u5 a &&& (((1 : Int32) <<< (v2 &&& 31)) ^^^ (-1 : Int32)))) → f_X8_quarrel_b48 Z Q v0 v1 v2 v3 u5 v1 y I L := by
    intro y ey
    unfold f_X8_quarrel_b48
    refine ⟨by rw [l5]; exact vi_of e1 (by omega) (by omega), fun I4 eI4 => ?_⟩
    rw [n1] at eI4
    have w4 : WD Z I4 := by rw [eI4]; exact WD_putA w 8 5 kv h5 k5 rfl rfl (by decide) trivial
    have f4 : FR [(8, 5)] Z I Z I4 := by rw [eI4]; exact FR_upA w.2.1 kv h5 k5 rfl rfl List.mem_cons_self
    have h4 := FEc_bit (u' := I4 u5) (v := v2) ha hb e2 h (v3 ≠ 0) (fun f hf => by rw [eI4, jpI_off hf]) (by rw [eI4, jpI_at]; exact ey)
    intro b9 hb9; cases h5.symm.trans hb9
    refine ⟨fun c => ?_, fun c => ?_⟩
    · intro b9 hb9; cases h5.symm.trans hb9
      rw [n2]
      exact ⟨vi_of e2 (by omega) (by omega), two I4 w4 f4 h4 _ (Or.inr ⟨fun q => q c, rfl⟩)⟩
    · intro b9 hb9; cases h5.symm.trans hb9
      rw [n2]
      exact ⟨vi_of e2 (by omega) (by omega), two I4 w4 f4 h4 _ (Or.inl ⟨c, rfl⟩)⟩
  unfold f_X8_quarrel
  refine s_X11_isFamily w v1 (fun r1 hr1 => ⟨fun c => ?_, fun _ => ?_⟩)
  · have c := (i_eq rfl z0).mp c
    omega
  refine s_X11_isFamily w v2 (fun r2 hr2 => ⟨fun c => ?_, fun _ => ?_⟩)
  · have c := (i_eq rfl z0).mp c
    omega
  intro b9 hb9; cases h5.symm.trans hb9
  refine ⟨fun c => ?_, fun c => ?_⟩
  · intro b9 hb9; cases h5.symm.trans hb9
    rw [n1]
    exact ⟨vi_of e1 (by omega) (by omega), one _ (Or.inr ⟨fun q => q c, rfl⟩)⟩
  · intro b9 hb9; cases h5.symm.trans hb9
    rw [n1]
    exact ⟨vi_of e1 (by omega) (by omega), one _ (Or.inl ⟨c, rfl⟩)⟩
theorem r_X12_setFeud {Z : jZ} {I : jI} {L : jL} (w : WD Z I) (v0 t6 : Nat) (kv : jk Z v0 12) (h6 : jr Z v0 6 = some t6) (v1 v2 v3 : Int32) (a b : Nat) (ha : a < 8) (hb : b < 8) (e1 : v1.toInt = (a : Int)) (e2 : v2.toInt = (b : Int)) (hv : v3 = 0 ∨ v3 = 1) (F : Nat → Nat → Prop) (h : FEm (I t6) F) {Q : jI → jL → Prop}
    (hQ : ∀ (I' : jI) (L' : jL), WD Z I' → FR [(12, 6)] Z I Z I' → FEm (I' t6) (FEs F a b (v3 ≠ 0)) → Q I' L') : f_X12_setFeud v0 v1 v2 v3 Z I L Q := by
  obtain ⟨x, ex, k6, l6⟩ := sh_f w.1 kv (j := 6) (k := 16) (m := 64) rfl
  cases h6.symm.trans ex
  have z8 : (8 : Int32).toInt = 8 := rfl
  have nv : vp_nar .boolean v3 = v3 := by rcases hv with rfl | rfl <;> decide
  have t12 : (((8 : Int32) * v1) + v2).toInt = ((8 * a + b : Nat) : Int) := (i_add (i_mul z8 e1 (by omega) (by omega)) e2 (by omega) (by omega)).trans (by omega)
  have t21 : (((8 : Int32) * v2) + v1).toInt = ((8 * b + a : Nat) : Int) := (i_add (i_mul z8 e2 (by omega) (by omega)) e1 (by omega) (by omega)).trans (by omega)
  have n12 : (((8 : Int32) * v1) + v2).toNatClampNeg = 8 * a + b := by have := i_nat t12 (by omega); omega
  have n21 : (((8 : Int32) * v2) + v1).toNatClampNeg = 8 * b + a := by have := i_nat t21 (by omega); omega
  unfold f_X12_setFeud
  intro b9 hb9; cases h6.symm.trans hb9
  refine ⟨vi_of t12 (by omega) (by omega), fun I3 e3 => ?_⟩
  intro b9 hb9; cases h6.symm.trans hb9
  refine ⟨vi_of t21 (by omega) (by omega), fun I6 e6 => ?_⟩
  rw [n12, nv] at e3
  rw [n21, nv] at e6
  have w3 : WD Z I3 := by rw [e3]; exact WD_putA w 12 6 kv h6 k6 rfl rfl (by decide) trivial
  have f3 : FR [(12, 6)] Z I Z I3 := by rw [e3]; exact FR_upA w.2.1 kv h6 k6 rfl rfl List.mem_cons_self
  refine hQ I6 L (by rw [e6]; exact WD_putA w3 12 6 kv h6 k6 rfl rfl (by decide) trivial) (f3.trans w.1 w.2.1 (by rw [e6]; exact FR_upA w3.2.1 kv h6 k6 rfl rfl List.mem_cons_self)) (fun f g hf hg => ?_)
  by_cases c1 : f = b ∧ g = a
  · rw [FEs_1 (Or.inr c1), c1.1, c1.2, e6, jpI_at]
  · rw [e6, jpI_off (by omega)]
    by_cases c2 : f = a ∧ g = b
    · rw [FEs_1 (Or.inl c2), c2.1, c2.2, e3, jpI_at]
    · rw [FEs_0 (fun q => q.elim c2 c1), e3, jpI_off (by omega)]
      exact h f g hf hg
/-- the feuds as the prices feel them -/
theorem FE_x {uc t6 mn : Nat → Int32} {F : Nat → Nat → Prop} {n : Nat} (hc : FEc uc F) (hm : FEm t6 F) (hs : ∀ f g, F f g → F g f) (bm : ∀ s, s < n → 0 ≤ (mn s).toInt ∧ (mn s).toInt ≤ 7) (st fr : Int) (h0 : 0 ≤ st) (h1 : st < (n : Int)) (h2 : -1 ≤ fr) (h3 : fr < (n : Int)) : xLm mn t6 st fr = xLc mn uc st fr := by
  unfold xLm xLc
  by_cases c : 0 ≤ fr
  · rw [if_pos c, if_pos c]
    have b1 := bm st.toNat (by omega)
    have b2 := bm fr.toNat (by omega)
    obtain ⟨g, eg⟩ : ∃ g : Nat, (mn st.toNat).toInt = (g : Int) := ⟨(mn st.toNat).toInt.toNat, by omega⟩
    obtain ⟨f, ef⟩ : ∃ f : Nat, (mn fr.toNat).toInt = (f : Int) := ⟨(mn fr.toNat).toInt.toNat, by omega⟩
    obtain ⟨M, hM, eM, hg⟩ := hc g (by omega)
    have ev : mn fr.toNat = Int32.ofNat f := i_of ef (by omega)
    have t : (((Int32.ofNat M >>> (Int32.ofNat f &&& 31)) &&& (1 : Int32)) = 0 ↔ ¬ M / 2 ^ f % 2 = 1) := fb_t ⟨M, hM⟩ ⟨f, by omega⟩
    have tm := hm f g (by omega) (by omega)
    have tg := hg f (by omega)
    have n1 : (8 * (mn fr.toNat).toInt + (mn st.toNat).toInt).toNat = 8 * f + g := by omega
    have n2 : (mn st.toNat).toNatClampNeg = g := by
      show (mn st.toNat).toInt.toNat = g
      omega
    rw [n1, n2, eM, ev]
    by_cases q : F f g
    · rw [if_neg (tm.mpr q), if_neg (fun z => t.mp z (tg.mpr (hs _ _ q)))]
    · have q' : ¬ F g f := fun z => q (hs _ _ z)
      rw [if_pos (Classical.byContradiction fun z => q (tm.mp z)), if_pos (t.mpr (fun z => q' (tg.mp z)))]
  · rw [if_neg c, if_neg c]
theorem FEs_sym {F : Nat → Nat → Prop} {a b : Nat} {on : Prop} (hs : ∀ f g, F f g → F g f) : ∀ f g, FEs F a b on f g → FEs F a b on g f := fun f g h => by
  by_cases c : (f = a ∧ g = b) ∨ (f = b ∧ g = a)
  · rw [FEs_1 c] at h
    rw [FEs_1 (c.elim (fun q => Or.inr ⟨q.2, q.1⟩) (fun q => Or.inl ⟨q.2, q.1⟩))]
    exact h
  · rw [FEs_0 c] at h
    rw [FEs_0 (fun q => c (q.elim (fun q => Or.inr ⟨q.2, q.1⟩) (fun q => Or.inl ⟨q.2, q.1⟩)))]
    exact hs _ _ h
