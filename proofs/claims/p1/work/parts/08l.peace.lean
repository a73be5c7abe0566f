/-! ===== p1: peace ===== -/
theorem peaceX {K : Nat → Int32 → Int32 → Int32 → Int32 → jZ → jI → jL → Prop} {v0 n : Nat} {v4 v5 : Int32} {Z : jZ} {I : jI} {L : jL} {Q : Int32 → jZ → jI → jL → Prop} (hlt : ¬ (8 : Int32) ≤ v5) (c1 : ¬ v4 < 0) (c2 : ¬ (8 : Int32) ≤ v4) (hw : (((0 : Int32) >>> (v5 &&& 31)) &&& (1 : Int32)) = 0) (hz : ∀ b, jr Z v0 2 = some b → ∀ b' j, jr Z b 5 = some b' → I b' j = 0) (h : f_X11_peace_L32 K Q n v0 (-2) 0 0 v4 (v5 + 1) Z I L) : f_X11_peace_L32 K Q (n + 1) v0 (-2) 0 0 v4 v5 Z I L := by
  refine ⟨fun e => absurd e hlt, fun _ b eb => ?_⟩
  unfold f_X8_inFeud
  refine ⟨fun e => absurd e c1, fun _ => ⟨fun e => absurd e c2, fun _ b3 e3 => ⟨in_of (N := 8) rfl c1 c2, fun _ => ⟨fun e => absurd rfl e, fun _ => ?_⟩, fun e => absurd (by rw [hz b eb b3 _ e3]; exact hw) e⟩⟩⟩
  unfold f_X11_peace_b175
  intro x ex
  rw [ex]
  exact h
theorem x_peace {v0 : Nat} {Z : jZ} {I : jI} {L : jL} {Q : Int32 → jZ → jI → jL → Prop} (h0 : NEW Z I L) (k : jk Z v0 11) (h : ∀ I', (∀ a, ¬ jk Z a 14 → I' a = I a) → Q (-2) Z I' L) : f_X11_peace v0 Z I L Q := by
  unfold f_X11_peace
  intro b1 e1
  obtain ⟨b, e, k14, l3⟩ := sh_f h0.1 k (j := 11) (k := 14) (m := 3) rfl
  rw [e1] at e
  cases e
  have hne : v0 ≠ b1 := fun e => by subst e; exact absurd (jk_one k k14) (by decide)
  refine sumUp0 l3 (fun j => ((h0.2 b1 14 k14).1 j).trans (by simp [jz])) ((h0.x k).1) hne (fun I4 z4 o4 => ⟨9, ?_⟩)
  have hz : ∀ b, jr Z v0 2 = some b → ∀ b' j, jr Z b 5 = some b' → I4 b' j = 0 := fun b eb b' j eb' => by
    obtain ⟨c, e, k8⟩ := sh_o h0.1 k (j := 2) (k := 8) rfl
    rw [eb] at e
    cases e
    obtain ⟨c, e, k14', -⟩ := sh_f h0.1 k8 (j := 5) (k := 14) (m := 8) rfl
    rw [eb'] at e
    cases e
    by_cases q : b' = b1
    · rw [q]; exact z4 j
    · rw [o4 b' q]; exact ((h0.2 b' 14 k14').1 j).trans (by simp [jz])
  refine ⟨fun e => absurd e (by decide), fun _ x0 ex0 => ⟨9, ?_⟩⟩
  subst ex0
  iterate 7 refine peaceX (by decide) (by decide) (by decide) (by decide) hz ?_
  refine ⟨fun _ y0 ey0 => ?_, fun e => absurd (by decide) e⟩
  subst ey0
  refine ⟨fun e => absurd e (by decide), fun _ x1 ex1 => ⟨9, ?_⟩⟩
  subst ex1
  iterate 6 refine peaceX (by decide) (by decide) (by decide) (by decide) hz ?_
  refine ⟨fun _ y1 ey1 => ?_, fun e => absurd (by decide) e⟩
  subst ey1
  refine ⟨fun e => absurd e (by decide), fun _ x2 ex2 => ⟨9, ?_⟩⟩
  subst ex2
  iterate 5 refine peaceX (by decide) (by decide) (by decide) (by decide) hz ?_
  refine ⟨fun _ y2 ey2 => ?_, fun e => absurd (by decide) e⟩
  subst ey2
  refine ⟨fun e => absurd e (by decide), fun _ x3 ex3 => ⟨9, ?_⟩⟩
  subst ex3
  iterate 4 refine peaceX (by decide) (by decide) (by decide) (by decide) hz ?_
  refine ⟨fun _ y3 ey3 => ?_, fun e => absurd (by decide) e⟩
  subst ey3
  refine ⟨fun e => absurd e (by decide), fun _ x4 ex4 => ⟨9, ?_⟩⟩
  subst ex4
  iterate 3 refine peaceX (by decide) (by decide) (by decide) (by decide) hz ?_
  refine ⟨fun _ y4 ey4 => ?_, fun e => absurd (by decide) e⟩
  subst ey4
  refine ⟨fun e => absurd e (by decide), fun _ x5 ex5 => ⟨9, ?_⟩⟩
  subst ex5
  iterate 2 refine peaceX (by decide) (by decide) (by decide) (by decide) hz ?_
  refine ⟨fun _ y5 ey5 => ?_, fun e => absurd (by decide) e⟩
  subst ey5
  refine ⟨fun e => absurd e (by decide), fun _ x6 ex6 => ⟨9, ?_⟩⟩
  subst ex6
  iterate 1 refine peaceX (by decide) (by decide) (by decide) (by decide) hz ?_
  refine ⟨fun _ y6 ey6 => ?_, fun e => absurd (by decide) e⟩
  subst ey6
  refine ⟨fun e => absurd e (by decide), fun _ x7 ex7 => ⟨9, ?_⟩⟩
  subst ex7
  refine ⟨fun _ y7 ey7 => ?_, fun e => absurd (by decide) e⟩
  subst ey7
  exact ⟨fun _ => ⟨fun _ => h I4 (fun a ha => o4 a (fun e => by subst e; exact ha k14)), fun e => absurd rfl e⟩, fun e => absurd (by decide) e⟩
theorem peaceM {K : Nat → Int32 → Int32 → Int32 → Int32 → Int32 → jZ → jI → jL → Prop} {v0 n : Nat} {v1 v5 v6 : Int32} {Z : jZ} {I : jI} {L : jL} {Q : Int32 → jZ → jI → jL → Prop} (hlt : ¬ (8 : Int32) ≤ v6) (hi : vp_in ((8 : Int32) * v5 + v6) 64) (hz : ∀ b j, jr Z v0 6 = some b → I b j = 0) (h : f_X12_peace_L38 K Q n v0 v1 (-2) 0 0 v5 (v6 + 1) Z I L) : f_X12_peace_L38 K Q (n + 1) v0 v1 (-2) 0 0 v5 v6 Z I L := by
  refine ⟨fun e => absurd e hlt, fun _ b e => ⟨hi, fun c => absurd (hz b _ e) c, fun _ => ?_⟩⟩
  unfold f_X12_peace_b129
  intro x ex
  rw [ex]
  exact h
theorem m_peace {v0 : Nat} {Z : jZ} {I : jI} {L : jL} {Q : Int32 → jZ → jI → jL → Prop} (hZ : SH Z) (k : jk Z v0 12) (h0 : MN I v0) (hz0 : ∀ a j, jk Z a 16 → I a j = 0) (h : ∀ I, Q (-2) Z I L) : f_X12_peace v0 Z I L Q := by
  unfold f_X12_peace
  intro I1 e1
  have h0 : MN I1 v0 := by rw [e1]; exact h0.put
  refine findAll0 (h0 8 (by decide)) (fun I4 _ _ _ o4 x ex => ⟨9, ?_⟩)
  have hz : ∀ b j, jr Z v0 6 = some b → I4 b j = 0 := fun b j eb => by
    obtain ⟨b', e, k16, -⟩ := sh_f hZ k (j := 6) (k := 16) (m := 64) rfl
    rw [eb] at e
    cases e
    have hne : b ≠ v0 := fun e => by subst e; exact absurd (jk_one k k16) (by decide)
    rw [o4 b hne, e1, jpI_off hne]
    exact hz0 b j k16
  refine ⟨fun e => absurd e (by decide), fun _ x0 ex0 => ⟨9, ?_⟩⟩
  subst ex0
  iterate 7 refine peaceM (by decide) (vp_in_lit (by decide)) hz ?_
  refine ⟨fun _ y0 ey0 => ?_, fun e => absurd (by decide) e⟩
  subst ey0
  refine ⟨fun e => absurd e (by decide), fun _ x1 ex1 => ⟨9, ?_⟩⟩
  subst ex1
  iterate 6 refine peaceM (by decide) (vp_in_lit (by decide)) hz ?_
  refine ⟨fun _ y1 ey1 => ?_, fun e => absurd (by decide) e⟩
  subst ey1
  refine ⟨fun e => absurd e (by decide), fun _ x2 ex2 => ⟨9, ?_⟩⟩
  subst ex2
  iterate 5 refine peaceM (by decide) (vp_in_lit (by decide)) hz ?_
  refine ⟨fun _ y2 ey2 => ?_, fun e => absurd (by decide) e⟩
  subst ey2
  refine ⟨fun e => absurd e (by decide), fun _ x3 ex3 => ⟨9, ?_⟩⟩
  subst ex3
  iterate 4 refine peaceM (by decide) (vp_in_lit (by decide)) hz ?_
  refine ⟨fun _ y3 ey3 => ?_, fun e => absurd (by decide) e⟩
  subst ey3
  refine ⟨fun e => absurd e (by decide), fun _ x4 ex4 => ⟨9, ?_⟩⟩
  subst ex4
  iterate 3 refine peaceM (by decide) (vp_in_lit (by decide)) hz ?_
  refine ⟨fun _ y4 ey4 => ?_, fun e => absurd (by decide) e⟩
  subst ey4
  refine ⟨fun e => absurd e (by decide), fun _ x5 ex5 => ⟨9, ?_⟩⟩
  subst ex5
  iterate 2 refine peaceM (by decide) (vp_in_lit (by decide)) hz ?_
  refine ⟨fun _ y5 ey5 => ?_, fun e => absurd (by decide) e⟩
  subst ey5
  refine ⟨fun e => absurd e (by decide), fun _ x6 ex6 => ⟨9, ?_⟩⟩
  subst ex6
  iterate 1 refine peaceM (by decide) (vp_in_lit (by decide)) hz ?_
  refine ⟨fun _ y6 ey6 => ?_, fun e => absurd (by decide) e⟩
  subst ey6
  refine ⟨fun e => absurd e (by decide), fun _ x7 ex7 => ⟨9, ?_⟩⟩
  subst ex7
  refine ⟨fun _ y7 ey7 => ?_, fun e => absurd (by decide) e⟩
  subst ey7
  exact ⟨fun _ => ⟨fun e => absurd e (by decide), fun _ => h I4⟩, fun e => absurd (by decide) e⟩
section P1CASES10
variable {xs : Nat → Int32} {K : Nat → Nat → Nat → Int32 → jZ → jI → jL → Prop} {v1 v2 v3 : Nat} {Z : jZ} {I : jI} {L : jL}
theorem tc_peace (hN : NEW Z I L) (k1 : jk Z v1 11) (k2 : jk Z v2 12) (hK : ∀ Z I L, K v1 v2 v3 6 Z I L) : f_L_law_b1301 xs 6 K v1 v2 v3 0 Z I L := by
  unfold f_L_law_b1301
  refine x_peace hN k1 (fun I' o => m_peace hN.1 k2 ?_ ?_ (fun I => ⟨fun _ => tc_end_ hK _ _ _, fun e => absurd rfl e⟩))
  · exact (hN.m k2).of k2 (fun a ka => o a (fun e => absurd (jk_one ka e) (by decide)))
  · intro a j ka
    rw [o a (fun e => absurd (jk_one ka e) (by decide)), (hN.2 a 16 ka).1]
    simp [jz]
end P1CASES10
