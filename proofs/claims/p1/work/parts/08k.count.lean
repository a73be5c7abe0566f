/-! ===== p1: count ===== -/
def cnt (v : Int32) : Int32 := if v = 0 then 0 else if v = 1 then 0 else if v = 2 then 0 else if v = 3 then 0 else if v = 4 then 0 else if v = 5 then 0 else if v = 6 then 0 else if v = 7 then 0 else -1
theorem bits0 {v : Int32} {Z : jZ} {I : jI} {L : jL} {Q : Int32 → jI → jL → Prop} (hv : v = 0) (h : Q 0 I L) : f_J6_bitCount_0f7a4 v Z I L Q := by
  subst hv
  unfold f_J6_bitCount_0f7a4
  intro x1 e1 x2 e2 x3 e3 x4 e4 x5 e5
  have z1 : x1 = 0 := by rw [e1]; decide
  have z2 : x2 = 0 := by rw [e2, z1]; decide
  have z3 : x3 = 0 := by rw [e3, z2]; decide
  have z4 : x4 = 0 := by rw [e4, z3]; decide
  have z5 : x5 = 0 := by rw [e5, z4]; decide
  rw [z5]
  exact h
theorem purseS {v0 n : Nat} {v2 : Int32} {Z : jZ} {I : jI} {L : jL} {Q : Int32 → jI → jL → Prop} (hlt : ¬ (8 : Int32) ≤ v2) (hi : vp_in v2 8) (hz : ∀ b j, jr Z v0 5 = some b → I b j = 0) (h : f_X11_sumOfPurses_L4 Z Q n v0 0 (v2 + 1) I L) : f_X11_sumOfPurses_L4 Z Q (n + 1) v0 0 v2 I L := by
  refine ⟨fun e => absurd e hlt, fun _ b e => ⟨hi, fun x4 e4 x5 e5 => ?_⟩⟩
  have z : x4 = 0 := by rw [e4, hz b _ e]; decide
  rw [z, e5]
  exact h
theorem feudsS {v0 n : Nat} {v2 : Int32} {Z : jZ} {I : jI} {L : jL} {Q : Int32 → jI → jL → Prop} (hlt : ¬ (8 : Int32) ≤ v2) (hi : vp_in v2 8) (hz : ∀ b j, jr Z v0 5 = some b → I b j = 0) (h : f_X8_sumOfFeuds_L4 Z Q n v0 0 (v2 + 1) I L) : f_X8_sumOfFeuds_L4 Z Q (n + 1) v0 0 v2 I L := by
  refine ⟨fun e => absurd e hlt, fun _ b e => ⟨hi, bits0 (hz b _ e) (fun x4 e4 x5 e5 => ?_)⟩⟩
  have z : x4 = 0 := by rw [e4]; decide
  rw [z, e5]
  exact h
theorem x_count {v1 : Int32} {v0 : Nat} {Z : jZ} {I : jI} {L : jL} {Q : Int32 → jI → jL → Prop} (h0 : NEW Z I L) (k : jk Z v0 11) (h : Q (cnt v1) I L) : f_X11_count v0 v1 Z I L Q := by
  have X := h0.x k
  have k8 : ∀ b, jr Z v0 2 = some b → jk Z b 8 := fun b eb => by
    obtain ⟨b', e, k8⟩ := sh_o h0.1 k (j := 2) (k := 8) rfl
    rw [eb] at e
    cases e
    exact k8
  have z : ∀ b c j, jk Z b c → jz c j = 0 → I b j = 0 := fun b c j kb e => ((h0.2 b c kb).1 j).trans e
  unfold f_X11_count
  refine ⟨fun c b eb => ?_, fun c0 => ⟨fun c => ?_, fun c1 => ⟨fun c b14 e14 b15 e15 => ?_, fun c2 => ⟨fun c b24 e24 b25 e25 => ?_, fun c3 => ⟨fun c => ?_, fun c4 => ⟨fun c b34 e34 => ?_, fun c5 => ⟨fun c => ?_, fun c6 => ⟨fun c b43 e43 => ?_, fun c7 => ?_⟩⟩⟩⟩⟩⟩⟩⟩
  · subst c; rw [X.2.1 b eb]; exact h
  · subst c; rw [X.1]; exact h
  · subst c
    obtain ⟨b, e, k3⟩ := sh_o h0.1 (k8 _ e14) (j := 6) (k := 3) rfl
    rw [e15] at e
    cases e
    unfold f_X3_isTold
    refine ⟨fun _ => ⟨fun _ => ?_, fun e => absurd rfl e⟩, fun e => absurd (show I b15 3 ≤ 0 by rw [z b15 3 3 k3 (by simp [jz])]; decide) e⟩
    unfold f_X11_count_b79
    intro b1 e1 b2 e2
    obtain ⟨b, e, k3⟩ := sh_o h0.1 (k8 _ e1) (j := 7) (k := 3) rfl
    rw [e2] at e
    cases e
    unfold f_X3_isTold
    exact ⟨fun _ => ⟨fun _ => h, fun e => absurd rfl e⟩, fun e => absurd (show I b2 3 ≤ 0 by rw [z b2 3 3 k3 (by simp [jz])]; decide) e⟩
  · subst c
    obtain ⟨b, e, k4⟩ := sh_o h0.1 (k8 _ e24) (j := 4) (k := 4) rfl
    rw [e25] at e
    cases e
    rw [z b25 4 4 k4 (by simp [jz])]
    exact h
  · subst c
    have hz : ∀ b j, jr Z v0 5 = some b → I b j = 0 := fun b j eb => by
      obtain ⟨b', e, k14, -⟩ := sh_f h0.1 k (j := 5) (k := 14) (m := 8) rfl
      rw [eb] at e
      cases e
      exact z b 14 j k14 (by simp [jz])
    unfold f_X11_sumOfPurses
    refine ⟨9, ?_⟩
    iterate 8 refine purseS (by decide) (vp_in_lit (by decide)) hz ?_
    exact ⟨fun _ => h, fun e => absurd (by decide) e⟩
  · subst c
    have hz : ∀ b j, jr Z b34 5 = some b → I b j = 0 := fun b j eb => by
      obtain ⟨b', e, k14, -⟩ := sh_f h0.1 (k8 _ e34) (j := 5) (k := 14) (m := 8) rfl
      rw [eb] at e
      cases e
      exact z b 14 j k14 (by simp [jz])
    unfold f_X8_sumOfFeuds
    refine ⟨9, ?_⟩
    iterate 8 refine feudsS (by decide) (vp_in_lit (by decide)) hz ?_
    exact ⟨fun _ => h, fun e => absurd (by decide) e⟩
  · subst c; rw [X.2.2 16]; exact h
  · subst c
    obtain ⟨b, e, k10⟩ := sh_o h0.1 k (j := 0) (k := 10) rfl
    rw [e43] at e
    cases e
    rw [z b43 10 1 k10 (by simp [jz])]
    exact h
  · have e : cnt v1 = -1 := by
      unfold cnt
      rw [if_neg c0, if_neg c1, if_neg c2, if_neg c3, if_neg c4, if_neg c5, if_neg c6, if_neg c7]
    rw [e] at h
    exact h
theorem countS {v0 n : Nat} {v2 : Int32} {Z : jZ} {I : jI} {L : jL} {Q : Int32 → jI → jL → Prop} (hlt : ¬ (8 : Int32) ≤ v2) (hi : vp_in v2 8) (hz : ∀ b j, jr Z v0 17 = some b → I b j = 0) (h : f_X12_count_L103 Z Q n v0 0 (v2 + 1) I L) : f_X12_count_L103 Z Q (n + 1) v0 0 v2 I L := by
  refine ⟨fun e => absurd e hlt, fun _ b e => ⟨hi, fun x4 e4 x5 e5 => ?_⟩⟩
  have z : x4 = 0 := by rw [e4, hz b _ e]; decide
  rw [z, e5]
  exact h
theorem pairS {K : Nat → Int32 → Int32 → jI → jL → Prop} {v0 n : Nat} {v3 v4 : Int32} {Z : jZ} {I : jI} {L : jL} {Q : Int32 → jI → jL → Prop} (hlt : ¬ v3 ≤ v4) (hi : vp_in ((8 : Int32) * v3 + v4) 64) (hz : ∀ b j, jr Z v0 6 = some b → I b j = 0) (h : f_X12_count_L137 K Z Q n v0 0 v3 (v4 + 1) I L) : f_X12_count_L137 K Z Q (n + 1) v0 0 v3 v4 I L := by
  refine ⟨fun e => absurd e hlt, fun _ b e => ⟨hi, fun _ => ?_, fun c => absurd (hz b _ e) c⟩⟩
  unfold f_X12_count_b164
  intro x8 e8 x9 e9
  have z : x8 = 0 := by rw [e8]; decide
  rw [z, e9]
  exact h
theorem m_count {v1 : Int32} {v0 : Nat} {Z : jZ} {I : jI} {L : jL} {Q : Int32 → jI → jL → Prop} (h0 : NEW Z I L) (k : jk Z v0 12) (h : ∀ I, Q (cnt v1) I L) : f_X12_count v0 v1 Z I L Q := by
  unfold f_X12_count
  intro I1 e1
  have M : MN I1 v0 := by rw [e1]; exact (h0.m k).put
  have h := h I1
  have z : ∀ b c j, jk Z b c → c ≠ 12 → jz c j = 0 → I1 b j = 0 := fun b c j kb hc e => by
    rw [e1, jpI_off (fun e => by subst e; exact hc (jk_one kb k))]
    exact ((h0.2 b c kb).1 j).trans e
  refine ⟨fun c => ?_, fun c0 => ⟨fun c => ?_, fun c1 => ⟨fun c b21 e21 => ?_, fun c2 => ⟨fun c => ?_, fun c3 => ⟨fun c => ?_, fun c4 => ⟨fun c => ?_, fun c5 => ⟨fun c => ?_, fun c6 => ⟨fun c => ?_, fun c7 => ?_⟩⟩⟩⟩⟩⟩⟩⟩
  · subst c; rw [M 0 (by decide)]; exact h
  · subst c; rw [M 8 (by decide)]; exact h
  · subst c
    obtain ⟨b, e, k14, -⟩ := sh_f h0.1 k (j := 30) (k := 14) (m := 2) rfl
    rw [e21] at e
    cases e
    have zz : ∀ j, I1 b21 j ≤ 0 := fun j => by rw [z b21 14 j k14 (by decide) (by simp [jz])]; decide
    refine ⟨fun _ => ?_, fun e => absurd (zz _) e⟩
    unfold f_X12_count_b80
    intro b1 e1'
    rw [e21] at e1'
    cases e1'
    exact ⟨fun _ => h, fun e => absurd (zz _) e⟩
  · subst c; rw [M 52 (by decide)]; exact h
  · subst c
    have hz : ∀ b j, jr Z v0 17 = some b → I1 b j = 0 := fun b j eb => by
      obtain ⟨b', e, k14, -⟩ := sh_f h0.1 k (j := 17) (k := 14) (m := 8) rfl
      rw [eb] at e
      cases e
      exact z b 14 j k14 (by decide) (by simp [jz])
    refine ⟨9, ?_⟩
    iterate 8 refine countS (by decide) (vp_in_lit (by decide)) hz ?_
    exact ⟨fun _ => h, fun e => absurd (by decide) e⟩
  · subst c
    have hz : ∀ b j, jr Z v0 6 = some b → I1 b j = 0 := fun b j eb => by
      obtain ⟨b', e, k16, -⟩ := sh_f h0.1 k (j := 6) (k := 16) (m := 64) rfl
      rw [eb] at e
      cases e
      exact z b 16 j k16 (by decide) (by simp [jz])
    refine ⟨9, ?_⟩
    refine ⟨fun e => absurd e (by decide), fun _ => ⟨9, ?_⟩⟩
    refine ⟨fun _ x0 ex0 => ?_, fun e => absurd (by decide) e⟩
    subst ex0
    refine ⟨fun e => absurd e (by decide), fun _ => ⟨9, ?_⟩⟩
    iterate 1 refine pairS (by decide) (vp_in_lit (by decide)) hz ?_
    refine ⟨fun _ x1 ex1 => ?_, fun e => absurd (by decide) e⟩
    subst ex1
    refine ⟨fun e => absurd e (by decide), fun _ => ⟨9, ?_⟩⟩
    iterate 2 refine pairS (by decide) (vp_in_lit (by decide)) hz ?_
    refine ⟨fun _ x2 ex2 => ?_, fun e => absurd (by decide) e⟩
    subst ex2
    refine ⟨fun e => absurd e (by decide), fun _ => ⟨9, ?_⟩⟩
    iterate 3 refine pairS (by decide) (vp_in_lit (by decide)) hz ?_
    refine ⟨fun _ x3 ex3 => ?_, fun e => absurd (by decide) e⟩
    subst ex3
    refine ⟨fun e => absurd e (by decide), fun _ => ⟨9, ?_⟩⟩
    iterate 4 refine pairS (by decide) (vp_in_lit (by decide)) hz ?_
    refine ⟨fun _ x4 ex4 => ?_, fun e => absurd (by decide) e⟩
    subst ex4
    refine ⟨fun e => absurd e (by decide), fun _ => ⟨9, ?_⟩⟩
    iterate 5 refine pairS (by decide) (vp_in_lit (by decide)) hz ?_
    refine ⟨fun _ x5 ex5 => ?_, fun e => absurd (by decide) e⟩
    subst ex5
    refine ⟨fun e => absurd e (by decide), fun _ => ⟨9, ?_⟩⟩
    iterate 6 refine pairS (by decide) (vp_in_lit (by decide)) hz ?_
    refine ⟨fun _ x6 ex6 => ?_, fun e => absurd (by decide) e⟩
    subst ex6
    refine ⟨fun e => absurd e (by decide), fun _ => ⟨9, ?_⟩⟩
    iterate 7 refine pairS (by decide) (vp_in_lit (by decide)) hz ?_
    refine ⟨fun _ x7 ex7 => ?_, fun e => absurd (by decide) e⟩
    subst ex7
    exact ⟨fun _ => h, fun e => absurd (by decide) e⟩
  · subst c; rw [M 21 (by decide)]; exact h
  · subst c; rw [M 19 (by decide)]; exact h
  · have e : cnt v1 = -1 := by
      unfold cnt
      rw [if_neg c0, if_neg c1, if_neg c2, if_neg c3, if_neg c4, if_neg c5, if_neg c6, if_neg c7]
    rw [e] at h
    exact h
section P1CASES9
variable {xs : Nat → Int32} {K : Nat → Nat → Nat → Int32 → jZ → jI → jL → Prop} {v1 v2 v3 : Nat} {Z : jZ} {I : jI} {L : jL}
theorem tc_count (hN : NEW Z I L) (k1 : jk Z v1 11) (k2 : jk Z v2 12) (hK : ∀ Z I L, K v1 v2 v3 6 Z I L) : f_L_law_b1736 xs 6 K v1 v2 v3 0 Z I L := by
  unfold f_L_law_b1736
  exact ⟨vi1, x_count hN k1 ⟨vi1, m_count hN k2 (fun I => ⟨fun _ => tc_end_ hK _ _ _, fun e => absurd rfl e⟩)⟩⟩
end P1CASES9
