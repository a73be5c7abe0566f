/-! ===== p1: again ===== -/
theorem in_of {v N : Int32} {n : Nat} (hN : N.toInt = n) (c : ¬ v < 0) (d : ¬ N ≤ v) : vp_in v n := by
  refine vp_in_iff.mpr ⟨?_, ?_⟩
  · have h := Int32.le_iff_toInt_le.mp (Int32.not_lt.mp c)
    simpa using h
  · have h := Int32.lt_iff_toInt_lt.mp (Int32.not_le.mp d)
    omega
theorem in_lt {v : Int32} {n : Nat} (h : vp_in v n) : v.toNatClampNeg < n := Nat.not_le.mp fun q => h (Or.inr q)
theorem x_again {v1 : Int32} {v0 : Nat} {Z : jZ} {I : jI} {L : jL} {Q : Int32 → jI → jL → Prop} (h0 : NEW Z I L) (k : jk Z v0 11) (h : Q 0 I L) : f_X11_again v0 v1 Z I L Q := by
  unfold f_X11_again
  refine ⟨fun _ => h, fun c b18 e18 => ⟨fun _ => h, fun d b20 e20 => ?_⟩⟩
  have i2 : vp_in v1 2 := in_of (N := 2) rfl c d
  refine ⟨i2, fun b22 e22 => ?_⟩
  obtain ⟨b, e, k17, l17⟩ := sh_f h0.1 k (j := 8) (k := 17) (m := 2) rfl
  rw [e20] at e
  cases e
  obtain ⟨b, e, kb⟩ := h0.1.2.2.1 b20 k17 v1.toNatClampNeg (by rw [l17]; exact in_lt i2)
  have e : jr Z b20 v1.toNatClampNeg = some b := e
  rw [e22] at e
  cases e
  have z : I b22 8 = 0 := ((h0.2 b22 2 kb).1 8).trans (by simp [jz])
  exact ⟨fun e => absurd z e, fun _ => h⟩
theorem m_again {v1 : Int32} {v0 : Nat} {Z : jZ} {I : jI} {L : jL} {Q : Int32 → jI → jL → Prop} (h0 : NEW Z I L) (k : jk Z v0 12) (h : ∀ I, Q 0 I L) : f_X12_again v0 v1 Z I L Q := by
  unfold f_X12_again
  intro I1 e1
  unfold f_X12_in
  refine ⟨fun c => ⟨fun _ => h _, fun e => absurd rfl e⟩, fun c => ⟨fun d => ⟨fun _ => h _, fun e => absurd rfl e⟩, fun d => ⟨fun _ => h _, fun _ b eb => ?_⟩⟩⟩
  obtain ⟨b', e', k16, -⟩ := sh_f h0.1 k (j := 63) (k := 16) (m := 2) rfl
  rw [eb] at e'
  cases e'
  have i2 : vp_in v1 2 := in_of (N := 2) rfl c (fun q => d (by
    have := Int32.le_iff_toInt_le.mp q
    refine Int32.lt_iff_toInt_lt.mpr ?_
    have e1 : (1 : Int32).toInt = 1 := rfl
    have e2 : (2 : Int32).toInt = 2 := rfl
    omega))
  have z : I1 b v1.toNatClampNeg = 0 := by
    rw [e1, show jpI I v0 22 0 b = I b from va_up_ne _ _ (fun e => by subst e; exact absurd (jk_one k k16) (by decide))]
    exact ((h0.2 b 16 k16).1 _).trans (by simp [jz])
  exact ⟨i2, fun _ => h _, fun e => absurd z e⟩
section P1CASES3
variable {xs : Nat → Int32} {K : Nat → Nat → Nat → Int32 → jZ → jI → jL → Prop} {v1 v2 v3 : Nat} {Z : jZ} {I : jI} {L : jL}
theorem tc_again (hN : NEW Z I L) (k1 : jk Z v1 11) (k2 : jk Z v2 12) (hK : ∀ Z I L, K v1 v2 v3 6 Z I L) : f_L_law_b1711 xs 6 K v1 v2 v3 0 Z I L := by
  unfold f_L_law_b1711
  exact ⟨vi1, x_again hN k1 ⟨vi1, m_again hN k2 (fun I => ⟨fun _ => tc_end_ hK _ _ _, fun e => absurd rfl e⟩)⟩⟩
end P1CASES3
