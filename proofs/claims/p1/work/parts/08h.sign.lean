/-! ===== p1: sign ===== -/
theorem jpI_at {I : jI} {a j : Nat} {x : Int32} : jpI I a j x a j = x := by
  show va_up I a (upd (I a) j x) a j = x
  rw [va_up_self]
  simp [upd]
theorem jpI_off {I : jI} {a b j : Nat} {x : Int32} (h : b ≠ a) : jpI I a j x b = I b := va_up_ne _ _ h
theorem appendS {b n : Nat} {v1 v2 c : Int32} {Z : jZ} {I I0 : jI} {L : jL} {Q : Int32 → jI → jL → Prop} (hZ : SH Z) (kb : jk Z b 10) (hv : ¬ v2 < 0) (hc : vp_in c 80) (h1 : I b 1 = c) (hf : fr12 Z I0 I) (h : ∀ I', I' b 1 = c + 1 → fr12 Z I0 I' → f_X10_append_L16 Z Q n b v1 (v2 + (-8)) I' L) : f_X10_append_L16 Z Q (n + 1) b v1 v2 I L := by
  refine ⟨fun e => absurd e hv, fun _ b2 e2 => ⟨by rw [h1]; exact hc, fun I4 e4 I5 e5 x e6 => ?_⟩⟩
  obtain ⟨b', e, k13, -⟩ := sh_f hZ kb (j := 0) (k := 13) (m := 80) rfl
  rw [e2] at e
  cases e
  have hne : b ≠ b2 := fun e => by subst e; exact absurd (jk_one kb k13) (by decide)
  have h4 : I4 b 1 = c := by rw [e4, jpI_off hne]; exact h1
  rw [e6]
  refine h I5 ?_ ?_
  · rw [e5, jpI_at, h4]
  · rw [e5, e4]
    exact (hf.put k13 (by decide)).put kb (by decide)
theorem x_sign {v1 : Int32} {v0 : Nat} {Z : jZ} {I : jI} {L : jL} {Q : Int32 → jI → jL → Prop} (h0 : NEW Z I L) (k : jk Z v0 11) (h : ∀ I', fr12 Z I I' → Q 4 I' L) : f_X11_sign v0 v1 Z I L Q := by
  unfold f_X11_sign
  intro b1 e1
  obtain ⟨b, e, kb⟩ := sh_o h0.1 k (j := 0) (k := 10) rfl
  rw [e1] at e
  cases e
  have z : I b1 1 = 0 := ((h0.2 b1 10 kb).1 1).trans (by simp [jz])
  unfold f_X10_append
  refine ⟨fun _ => ⟨5, ?_⟩, fun e => absurd (by rw [z]; decide) e⟩
  refine appendS h0.1 kb (by decide) (vp_in_lit (by decide)) z (fun _ _ => rfl) (fun I1 z1 f1 => ?_)
  refine appendS h0.1 kb (by decide) (vp_in_lit (by decide)) z1 f1 (fun I2 z2 f2 => ?_)
  refine appendS h0.1 kb (by decide) (vp_in_lit (by decide)) z2 f2 (fun I3 z3 f3 => ?_)
  refine appendS h0.1 kb (by decide) (vp_in_lit (by decide)) z3 f3 (fun I4 z4 f4 => ?_)
  refine ⟨fun _ => ⟨fun e => absurd e (by decide), fun _ b9 e9 => ?_⟩, fun e => absurd (by decide) e⟩
  rw [e1] at e9
  cases e9
  rw [z4]
  exact h I4 f4
theorem signS {v0 n : Nat} {v1 v2 c : Int32} {Z : jZ} {I : jI} {L : jL} {Q : Int32 → jI → jL → Prop} (hZ : SH Z) (k : jk Z v0 12) (hv : ¬ v2 < 0) (hc : vp_in c 80) (h1 : I v0 19 = c) (h : ∀ I', I' v0 19 = c + 1 → f_X12_sign_L20 Z Q n v0 v1 (v2 + (-1)) I' L) : f_X12_sign_L20 Z Q (n + 1) v0 v1 v2 I L := by
  refine ⟨fun e => absurd e hv, fun _ b2 e2 I3 e3 => ⟨by rw [h1]; exact hc, fun I5 e5 x e6 => ?_⟩⟩
  obtain ⟨b', e, k13, -⟩ := sh_f hZ k (j := 18) (k := 13) (m := 80) rfl
  rw [e2] at e
  cases e
  have hne : v0 ≠ b2 := fun e => by subst e; exact absurd (jk_one k k13) (by decide)
  rw [e6]
  exact h I5 (by rw [e5, jpI_off hne, e3, jpI_at, h1])
theorem m_sign {v1 : Int32} {v0 : Nat} {Z : jZ} {I : jI} {L : jL} {Q : Int32 → jI → jL → Prop} (hZ : SH Z) (k : jk Z v0 12) (h0 : MN I v0) (h : ∀ I, Q 4 I L) : f_X12_sign v0 v1 Z I L Q := by
  unfold f_X12_sign
  intro I1 e1
  have h0 : MN I1 v0 := by rw [e1]; exact h0.put
  have z : I1 v0 19 = 0 := (h0 19 (by decide)).trans (by simp [jz])
  refine ⟨fun _ => ⟨5, ?_⟩, fun e => absurd (by rw [z]; decide) e⟩
  refine signS hZ k (by decide) (vp_in_lit (by decide)) z (fun I1 z1 => ?_)
  refine signS hZ k (by decide) (vp_in_lit (by decide)) z1 (fun I2 z2 => ?_)
  refine signS hZ k (by decide) (vp_in_lit (by decide)) z2 (fun I3 z3 => ?_)
  refine signS hZ k (by decide) (vp_in_lit (by decide)) z3 (fun I4 z4 => ?_)
  refine ⟨fun _ => ?_, fun e => absurd (by decide) e⟩
  rw [z4]
  exact h I4
section P1CASES6
variable {xs : Nat → Int32} {K : Nat → Nat → Nat → Int32 → jZ → jI → jL → Prop} {v1 v2 v3 : Nat} {Z : jZ} {I : jI} {L : jL}
theorem tc_sign (hN : NEW Z I L) (k1 : jk Z v1 11) (k2 : jk Z v2 12) (hK : ∀ Z I L, K v1 v2 v3 6 Z I L) : f_L_law_b244 xs 6 K v1 v2 v3 0 Z I L := by
  unfold f_L_law_b244
  exact ⟨vi1, x_sign hN k1 (fun I' e => ⟨vi1, m_sign hN.1 k2 ((hN.m k2).of k2 e) (fun I => ⟨fun _ => tc_end_ hK _ _ _, fun e => absurd rfl e⟩)⟩)⟩
end P1CASES6
