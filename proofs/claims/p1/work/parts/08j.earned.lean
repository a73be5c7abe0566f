/-! ===== p1: earned ===== -/
theorem in192v {v w : Int32} (hv : vp_in v 24) (hw : vp_in w 8) : vp_in (v * (8 : Int32) + w) 192 := by
  obtain ⟨a, ha, rfl⟩ := vp_in_of hv (by decide)
  obtain ⟨b, hb, rfl⟩ := vp_in_of hw (by decide)
  have := (by decide : ∀ a < 24, ∀ b < 8, 0 ≤ (nI a * (8 : Int32) + nI b).toInt ∧ (nI a * (8 : Int32) + nI b).toInt < 192) a ha b hb
  exact vp_in_iff.mpr this
theorem shareA {v0 : Nat} {a f : Int32} {Z : jZ} {I : jI} {L : jL} {Q : Int32 → jI → jL → Prop} (h : ∀ r, Q r I L) : f_X4_shareOf v0 a f Z I L Q := by
  unfold f_X4_shareOf
  exact ⟨fun _ => h _, fun c => ⟨fun _ => h _, fun d => famX ⟨fun _ => h _, fun g b _ => ⟨in192v (in_of (N := 24) rfl c d) (famIn g), h _⟩⟩⟩⟩
theorem sumOfA {v0 : Nat} {f : Int32} {Z : jZ} {I : jI} {L : jL} {Q : Int32 → jI → jL → Prop} (h : ∀ r, Q r I L) : f_X4_sumOf v0 f Z I L Q := by
  unfold f_X4_sumOf
  refine ⟨25, ?_⟩
  iterate 24 (refine ⟨fun e => absurd e (by decide), fun _ => shareA (fun r x8 e8 x9 e9 => ?_)⟩; subst e9)
  exact ⟨fun _ => h _, fun e => absurd (by decide) e⟩
theorem tell1 {v0 : Nat} {x : Int64} {Z : jZ} {I : jI} {L : jL} {Q : jI → jL → Prop} (h : ∀ I' L', (∀ a, a ≠ v0 → I' a = I a) → Q I' L') : f_X11_tellOne v0 x Z I L Q := by
  unfold f_X11_tellOne f_X11_tellNothing
  intro I1 e1
  exact tellM (c := 0) (by rw [e1, jpI_at]) (by decide) (vp_in_lit (by decide)) (fun I2 L2 _ o2 => h I2 L2 (fun a ha => by rw [o2 a ha, e1]; exact jpI_off ha))
def ea (v : Int32) : Int32 := if faml v = 0 then -1 else 0
theorem x_earned {v1 : Int32} {v0 : Nat} {Z : jZ} {I : jI} {L : jL} {Q : Int32 → jI → jL → Prop} (h0 : NEW Z I L) (k : jk Z v0 11) (h : ∀ I' L', (∀ a, a ≠ v0 → I' a = I a) → Q (ea v1) I' L') : f_X11_earned v0 v1 Z I L Q := by
  unfold f_X11_earned
  refine famX ⟨fun c b8 e8 b9 e9 => sumOfA (fun r => tell1 (fun I' L' o b21 e21 => ⟨famIn c, ?_⟩)), fun c => by simpa [ea, c] using h I L (fun _ _ => rfl)⟩
  obtain ⟨b, e, k14, -⟩ := sh_f h0.1 k (j := 5) (k := 14) (m := 8) rfl
  rw [e21] at e
  cases e
  rw [o b21 (fun e => by subst e; exact absurd (jk_one k k14) (by decide)), (h0.2 b21 14 k14).1, show jz 14 v1.toNatClampNeg = 0 by simp [jz]]
  simpa [ea, c] using h I' L' o
theorem mtellO {v0 : Nat} {x : Int64} {c : Int32} {Z : jZ} {I : jI} {L : jL} {Q : jI → jL → Prop} (h1 : I v0 21 = c) (hi : vp_in c 40) (h : ∀ I' L', (∀ a, a ≠ v0 → I' a = I a) → Q I' L') : f_X12_tell v0 x Z I L Q := by
  unfold f_X12_tell
  rw [h1]
  exact fun b _ => ⟨hi, fun L3 _ I4 e4 => h I4 L3 (fun a ha => by rw [e4]; exact jpI_off ha)⟩
theorem m_earned {v1 : Int32} {v0 : Nat} {Z : jZ} {I : jI} {L : jL} {Q : Int32 → jI → jL → Prop} (hZ : SH Z) (k : jk Z v0 12) (h0 : MN I v0) (hz : ∀ a j, jk Z a 14 → I a j = 0) (h : ∀ I L, Q (ea v1) I L) : f_X12_earned v0 v1 Z I L Q := by
  unfold f_X12_earned
  intro I1 e1
  have h0 : MN I1 v0 := by rw [e1]; exact h0.put
  refine famM ⟨fun c => ⟨1, fun _ I2 e2 => ?_, fun e => absurd (show I1 v0 0 ≤ 0 by rw [h0 0 (by decide)]; decide) e⟩, fun c => by simpa [ea, c] using h I1 L⟩
  refine mtellO (c := 0) (by rw [e2, jpI_at]) (vp_in_lit (by decide)) (fun I3 L3 o3 b8 e8 => ⟨famIn c, ?_⟩)
  obtain ⟨b, e, k14, -⟩ := sh_f hZ k (j := 17) (k := 14) (m := 8) rfl
  rw [e8] at e
  cases e
  have hne : b8 ≠ v0 := fun e => by subst e; exact absurd (jk_one k k14) (by decide)
  rw [o3 b8 hne, e2, jpI_off hne, e1, jpI_off hne, hz b8 _ k14]
  simpa [ea, c] using h I3 L3
section P1CASES8
variable {xs : Nat → Int32} {K : Nat → Nat → Nat → Int32 → jZ → jI → jL → Prop} {v1 v2 v3 : Nat} {Z : jZ} {I : jI} {L : jL}
theorem tc_earned (hN : NEW Z I L) (k1 : jk Z v1 11) (k2 : jk Z v2 12) (hK : ∀ Z I L, K v1 v2 v3 6 Z I L) : f_L_law_b902 xs 6 K v1 v2 v3 0 Z I L := by
  unfold f_L_law_b902
  refine ⟨vi1, x_earned hN k1 (fun I' L' o => ⟨vi1, m_earned hN.1 k2 ?_ ?_ (fun I L => ⟨fun _ => tc_end_ hK _ _ _, fun e => absurd rfl e⟩)⟩)⟩
  · exact (hN.m k2).of k2 (fun a ka => o a (fun e => by subst e; exact absurd (jk_one ka k1) (by decide)))
  · intro a j ka
    rw [o a (fun e => by subst e; exact absurd (jk_one ka k1) (by decide)), (hN.2 a 14 ka).1]
    simp [jz]
end P1CASES8
