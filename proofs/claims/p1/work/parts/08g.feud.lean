/-! ===== p1: feud ===== -/
def faml (v : Int32) : Int32 := if v < 0 then 0 else if 8 ≤ v then 0 else 1
theorem famX {v : Int32} {Z : jZ} {I : jI} {L : jL} {Q : Int32 → jI → jL → Prop} (h : Q (faml v) I L) : f_X11_isFamily v Z I L Q := by
  unfold f_X11_isFamily
  exact ⟨fun c => by simpa [faml, c] using h, fun c => ⟨fun d => by simpa [faml, c, d] using h, fun d => by simpa [faml, c, d] using h⟩⟩
theorem lt7 {v : Int32} : (7 : Int32) < v ↔ (8 : Int32) ≤ v := by
  rw [Int32.lt_iff_toInt_lt, Int32.le_iff_toInt_le]
  have e1 : (7 : Int32).toInt = 7 := rfl
  have e2 : (8 : Int32).toInt = 8 := rfl
  omega
theorem famM {v : Int32} {Z : jZ} {I : jI} {L : jL} {Q : Int32 → jI → jL → Prop} (h : Q (faml v) I L) : f_X12_isFamily v Z I L Q := by
  unfold f_X12_isFamily f_X12_in
  exact ⟨fun c => by simpa [faml, c] using h, fun c => ⟨fun d => by simpa [faml, c, lt7.mp d] using h, fun d => by simpa [faml, c, show ¬ (8 : Int32) ≤ v from fun q => d (lt7.mpr q)] using h⟩⟩
theorem famIn {v : Int32} (h : ¬ faml v = 0) : vp_in v 8 := by
  unfold faml at h
  by_cases c : v < 0
  · simp [c] at h
  · by_cases d : (8 : Int32) ≤ v
    · simp [c, d] at h
    · exact in_of (N := 8) rfl c d
abbrev fr12 (Z : jZ) (I I' : jI) : Prop := ∀ a, jk Z a 12 → I' a = I a
theorem fr12.put {Z : jZ} {I I' : jI} {s k : Nat} {j : Nat} {x : Int32} (h : fr12 Z I I') (ks : jk Z s k) (hk : k ≠ 12) : fr12 Z I (jpI I' s j x) := fun a ka => by
  rw [show jpI I' s j x a = I' a from va_up_ne _ _ (fun e => by subst e; exact hk (jk_one ks ka))]
  exact h a ka
theorem quarrel83 {s0 : Nat} {s1 s2 : Int32} {Z : jZ} {I I0 : jI} {L : jL} {Q : jI → jL → Prop} (k : jk Z s0 14) (l : jlen Z s0 = 8) (i : vp_in s1 8) (hf : fr12 Z I0 I) (h : ∀ I', fr12 Z I0 I' → Q I' L) : f_X8_quarrel_b83 Z Q s0 s1 s2 I L := by
  unfold f_X8_quarrel_b83
  exact ⟨by rw [l]; exact i, fun I2 e2 => h I2 (by rw [e2]; exact hf.put k (by decide))⟩
theorem quarrel48 {v0 s0 : Nat} {v1 v2 v3 s1 s2 : Int32} {Z : jZ} {I I0 : jI} {L : jL} {Q : jI → jL → Prop} (hZ : SH Z) (k8 : jk Z v0 8) (k : jk Z s0 14) (l : jlen Z s0 = 8) (i : vp_in s1 8) (i2 : vp_in v2 8) (hf : fr12 Z I0 I) (h : ∀ I', fr12 Z I0 I' → Q I' L) : f_X8_quarrel_b48 Z Q v0 v1 v2 v3 s0 s1 s2 I L := by
  unfold f_X8_quarrel_b48
  refine ⟨by rw [l]; exact i, fun I4 e4 b5 e5 => ?_⟩
  obtain ⟨b, e, k5, l5⟩ := sh_f hZ k8 (j := 5) (k := 14) (m := 8) rfl
  rw [e5] at e
  cases e
  have hf4 : fr12 Z I0 I4 := by rw [e4]; exact hf.put k (by decide)
  exact ⟨fun _ b7 _ => ⟨i2, quarrel83 k5 l5 i2 hf4 h⟩, fun _ b9 _ => ⟨i2, quarrel83 k5 l5 i2 hf4 h⟩⟩
theorem quarrelF {v0 : Nat} {v1 v2 v3 : Int32} {Z : jZ} {I : jI} {L : jL} {Q : jI → jL → Prop} (hZ : SH Z) (k8 : jk Z v0 8) (h : ∀ I', fr12 Z I I' → Q I' L) : f_X8_quarrel v0 v1 v2 v3 Z I L Q := by
  unfold f_X8_quarrel
  refine famX ⟨fun _ => h I (fun _ _ => rfl), fun c => famX ⟨fun _ => h I (fun _ _ => rfl), fun d b25 e25 => ?_⟩⟩
  obtain ⟨b, e, k5, l5⟩ := sh_f hZ k8 (j := 5) (k := 14) (m := 8) rfl
  rw [e25] at e
  cases e
  exact ⟨fun _ b7 _ => ⟨famIn c, quarrel48 hZ k8 k5 l5 (famIn c) (famIn d) (fun _ _ => rfl) h⟩, fun _ b7 _ => ⟨famIn c, quarrel48 hZ k8 k5 l5 (famIn c) (famIn d) (fun _ _ => rfl) h⟩⟩
def feua (v w : Int32) : Int32 := if faml v = 0 then 0 else if faml w = 0 then 0 else if v = w then 0 else 1
theorem x_feud {v1 v2 v3 : Int32} {v0 : Nat} {Z : jZ} {I : jI} {L : jL} {Q : Int32 → jI → jL → Prop} (h0 : NEW Z I L) (k : jk Z v0 11) (h : ∀ I', fr12 Z I I' → Q (feua v1 v2) I' L) : f_X11_feud v0 v1 v2 v3 Z I L Q := by
  unfold f_X11_feud
  have hh := h I (fun _ _ => rfl)
  refine famX ⟨fun c => by simpa [feua, c] using hh, fun c => famX ⟨fun d => by simpa [feua, c, d] using hh, fun d => ⟨fun g b eb => ?_, fun g => by simpa [feua, c, d, g] using hh⟩⟩⟩
  obtain ⟨b', e, k8⟩ := sh_o h0.1 k (j := 2) (k := 8) rfl
  rw [eb] at e
  cases e
  exact quarrelF h0.1 k8 (fun I' f => by simpa [feua, c, d, g] using h I' f)
theorem in64 : ∀ a, a < 8 → ∀ b, b < 8 → vp_in ((8 : Int32) * nI a + nI b) 64 := by
  intro a ha b hb
  have := (by decide : ∀ a < 8, ∀ b < 8, 0 ≤ ((8 : Int32) * nI a + nI b).toInt ∧ ((8 : Int32) * nI a + nI b).toInt < 64) a ha b hb
  exact vp_in_iff.mpr this
theorem in64v {v w : Int32} (hv : vp_in v 8) (hw : vp_in w 8) : vp_in ((8 : Int32) * v + w) 64 := by
  obtain ⟨a, ha, rfl⟩ := vp_in_of hv (by decide)
  obtain ⟨b, hb, rfl⟩ := vp_in_of hw (by decide)
  exact in64 a ha b hb
theorem m_feud {v1 v2 v3 : Int32} {v0 : Nat} {Z : jZ} {I : jI} {L : jL} {Q : Int32 → jI → jL → Prop} (h : ∀ I, Q (feua v1 v2) I L) : f_X12_feud v0 v1 v2 v3 Z I L Q := by
  unfold f_X12_feud
  intro I1 e1
  refine famM ⟨fun c => by simpa [feua, c] using h I1, fun c => famM ⟨fun d => by simpa [feua, c, d] using h I1, fun d => ⟨fun g => ?_, fun g => by simpa [feua, c, d, g] using h I1⟩⟩⟩
  unfold f_X12_setFeud
  exact fun b1 _ => ⟨in64v (famIn c) (famIn d), fun I3 _ b4 _ => ⟨in64v (famIn d) (famIn c), fun I6 _ => by simpa [feua, c, d, g] using h I6⟩⟩
section P1CASES5
variable {xs : Nat → Int32} {K : Nat → Nat → Nat → Int32 → jZ → jI → jL → Prop} {v1 v2 v3 : Nat} {Z : jZ} {I : jI} {L : jL}
theorem tc_feud7 {s : Int32} (hN : NEW Z I L) (k1 : jk Z v1 11) (k2 : jk Z v2 12) (hK : ∀ Z I L, K v1 v2 v3 6 Z I L) : f_L_law_b537 xs 6 K v1 v2 v3 0 v1 (xs ((0 : Int32) + (1 : Int32)).toNatClampNeg) (xs ((0 : Int32) + (2 : Int32)).toNatClampNeg) s Z I L := by
  unfold f_L_law_b537
  refine x_feud hN k1 (fun I' _ => ⟨vi1, vi2, vi3, fun _ => ?_, fun _ => ?_⟩) <;>
  · unfold f_L_law_b567
    exact m_feud (fun I => ⟨fun _ => tc_end_ hK _ _ _, fun e => absurd rfl e⟩)
theorem tc_feud (hN : NEW Z I L) (k1 : jk Z v1 11) (k2 : jk Z v2 12) (hK : ∀ Z I L, K v1 v2 v3 6 Z I L) : f_L_law_b510 xs 6 K v1 v2 v3 0 Z I L := by
  unfold f_L_law_b510
  exact ⟨vi1, vi2, vi3, fun _ => tc_feud7 hN k1 k2 hK, fun _ => tc_feud7 hN k1 k2 hK⟩
end P1CASES5
