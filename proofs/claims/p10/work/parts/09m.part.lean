/-! ===== a fraction is told ===== -/
theorem l_rem {x y : Int64} (hy : ¬ y = 0) : (x - x / y * y).toInt.natAbs < y.toInt.natAbs := by
  have h0 : y.toInt ≠ 0 := fun h => hy (Int64.toInt_inj.mp h)
  have e : (x - x / y * y).toInt = (x.toInt - x.toInt.tdiv y.toInt * y.toInt).bmod (2 ^ 64) := by
    rw [Int64.toInt_sub, Int64.toInt_mul, Int64.toInt_div]
    simp
  have t : x.toInt - x.toInt.tdiv y.toInt * y.toInt = x.toInt.tmod y.toInt := by
    have := Int.mul_tdiv_add_tmod x.toInt y.toInt
    rw [Int.mul_comm] at this
    omega
  have b : (x.toInt.tmod y.toInt).natAbs < y.toInt.natAbs := by
    rw [Int.natAbs_tmod]
    exact Nat.mod_lt _ (by omega)
  have l1 := Int64.le_toInt y
  have l2 := Int64.toInt_lt y
  rw [e, t, Int.bmod_def]
  generalize x.toInt.tmod y.toInt = m at b ⊢
  omega
theorem s_X12_tellPart {Z : jZ} {I : jI} {L : jL} (w_I : WD Z I) (v0 : Nat) (v1 v3 : Int64) (kv0 : jk Z v0 12) (p0 : ¬ v3 = 0) (p1 : (I v0 21).toInt ≤ 38) {Q : jI → jL → Prop} (hQ : ∀ (I' : jI) (L' : jL), WD Z I' → FR [(12, 21)] Z I Z I' → Q I' L') : f_X12_tellPart v0 v1 v3 Z I L Q := by
  have key : ∀ (n : Nat) (v5 v7 : Int64), (¬ v5 = 0 ∨ ¬ v7 = 0) → v7.toInt.natAbs < n → f_X12_tellPart_L6 Z Q n v0 v1 v3 v5 v7 I L := by
    intro n
    induction n with
    | zero => intro v5 v7 h1 h2; exfalso; omega
    | succ n ih =>
      intro v5 v7 h1 h2
      unfold f_X12_tellPart_L6
      refine ⟨fun c => ?_, fun c => ?_⟩
      · have h7 : v7 = 0 := (lg_cmp_eq v7 0).mp c
        have h5 : ¬ v5 = 0 := h1.resolve_right (fun h => h h7)
        refine ⟨h5, s_X12_tell w_I v0 _ kv0 (by omega) (fun I5 L6 w5 f5 p5 => ⟨h5, s_X12_tell w5 v0 _ kv0 (by omega) (fun I6 L7 w6 f6 p6 => hQ I6 L7 w6 ?_)⟩)⟩
        exact FR.trans w_I.1 w_I.2.1 (f5.mono (by decide)) (f6.mono (by decide))
      · have h7 : ¬ v7 = 0 := fun h => c ((lg_cmp_eq v7 0).mpr h)
        refine ⟨h7, fun x ex => ih v7 x (Or.inl h7) ?_⟩
        have := l_rem (x := v5) h7
        rw [← ex] at this
        omega
  unfold f_X12_tellPart
  exact ⟨v3.toInt.natAbs + 1, key _ v1 v3 (Or.inr p0) (by omega)⟩
theorem l_of {x : Int32} (h : ¬ x.toInt = 0) : ¬ x.toInt64 = 0 := fun q => by
  have := congrArg Int64.toInt q
  rw [Int32.toInt_toInt64] at this
  exact h this
