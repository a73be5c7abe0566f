/-! ===== the model's moves ===== -/
def MVB (K N : Int) (C E : Nat → Int32) : Prop := ∀ k : Nat, (k : Int) < K → (C k).toInt = 1000000000 ∨ (((k / 3 : Nat) : Int) + ((k % 3 : Nat) : Int) + 1 ≤ N ∧ 0 ≤ (C k).toInt ∧ (C k).toInt ≤ 297 ∧ 0 ≤ (E k).toInt ∧ (E k).toInt ≤ 999)
theorem MVB.zero {N : Int} {C E : Nat → Int32} {K : Int} (h : K ≤ 0) : MVB K N C E := fun k hk => by omega
theorem MVB.step {K N : Int} {C E C' E' : Nat → Int32} (h : MVB K N C E) (P : Nat) (hP : (P : Int) = K) (hC : ∀ q, q ≠ P → C' q = C q) (hE : ∀ q, q ≠ P → E' q = E q)
    (hv : (C' P).toInt = 1000000000 ∨ (((P / 3 : Nat) : Int) + ((P % 3 : Nat) : Int) + 1 ≤ N ∧ 0 ≤ (C' P).toInt ∧ (C' P).toInt ≤ 297 ∧ 0 ≤ (E' P).toInt ∧ (E' P).toInt ≤ 999)) {K' : Int} (hK : K' = K + 1) : MVB K' N C' E' := by
  intro k hk
  by_cases q : k = P
  · subst q; exact hv
  · rw [hC k q, hE k q]
    exact h k (by omega)
theorem MVB.at {K N : Int} {C E : Nat → Int32} (h : MVB K N C E) {x : Int32} {A : Int} (hx : x.toInt = A) (h0 : 0 ≤ A) (h1 : A < K) : (C x.toNatClampNeg).toInt = 1000000000 ∨ (A / 3 + A % 3 + 1 ≤ N ∧ 0 ≤ (C x.toNatClampNeg).toInt ∧ (C x.toNatClampNeg).toInt ≤ 297 ∧ 0 ≤ (E x.toNatClampNeg).toInt ∧ (E x.toNatClampNeg).toInt ≤ 999) := by
  have hn := i_nat hx h0
  rcases h x.toNatClampNeg (by omega) with h | h
  · exact Or.inl h
  · refine Or.inr ⟨by omega, h.2⟩
theorem MVB.same {K N : Int} {C E C' E' : Nat → Int32} (hC : ∀ q, True → C' q = C q) (hE : ∀ q, True → E' q = E q) (h : MVB K N C E) : MVB K N C' E' := fun k hk => by
  rw [hC k trivial, hE k trivial]
  exact h k hk
theorem MVB.rew {N N' : Int} {C E : Nat → Int32} (h : N' = N) (m : MVB (3 * (N + 1)) N C E) : MVB (3 * (N' + 1)) N' C E := by rw [h]; exact m
