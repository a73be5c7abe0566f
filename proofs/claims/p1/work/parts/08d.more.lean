/-! ===== p1: calls with answers that hang on their numbers ===== -/
def wr (v : Int32) : Int32 := if v < 0 then -1 else if v ≤ 9 then 0 else -1
theorem x_wears {v1 : Int32} {v0 : Nat} {Z : jZ} {I : jI} {L : jL} {Q : Int32 → jI → jL → Prop} (h0 : XN Z I v0) (h : Q (wr v1) I L) : f_X11_wears v0 v1 Z I L Q := by
  unfold f_X11_wears
  refine ⟨fun c => ?_, fun c => ⟨fun d => ?_, fun d => ?_⟩⟩
  · simpa [wr, c] using h
  · have h : Q 0 I L := by simpa [wr, c, d] using h
    exact ⟨1, fun b eb => ⟨fun _ => h, fun e => absurd (show I b 9 ≤ 0 by rw [h0.2.1 b eb]; decide) e⟩⟩
  · simpa [wr, c, d] using h
theorem m_wears {v1 : Int32} {v0 : Nat} {Z : jZ} {I : jI} {L : jL} {Q : Int32 → jI → jL → Prop} (h0 : MN I v0) (h : ∀ I, Q (wr v1) I L) : f_X12_wears v0 v1 Z I L Q := by
  unfold f_X12_wears
  intro I1 e1
  have h0 : MN I1 v0 := by rw [e1]; exact h0.put
  unfold f_X12_in
  refine ⟨fun c => ⟨fun e => absurd rfl e, fun _ => ?_⟩, fun c => ⟨fun d => ⟨fun e => absurd rfl e, fun _ => ?_⟩, fun d => ⟨fun _ => ?_, fun e => absurd e (by decide)⟩⟩⟩
  · simpa [wr, c] using h I1
  · simpa [wr, c, Int32.not_le.mpr d] using h I1
  · have h : Q 0 I1 L := by simpa [wr, c, Int32.not_lt.mp d] using h I1
    exact ⟨1, fun _ => h, fun e => absurd (show I1 v0 0 ≤ 0 by rw [h0 0 (by decide)]; decide) e⟩
theorem x_undo {v0 : Nat} {Z : jZ} {I : jI} {L : jL} {Q : Int32 → jI → jL → Prop} (h0 : NEW Z I L) (k : jk Z v0 11) (h : Q (-1) I L) : f_X11_undo v0 Z I L Q := by
  unfold f_X11_undo
  intro b1 e1 b2 e2
  obtain ⟨b, e, k8⟩ := sh_o h0.1 k (j := 2) (k := 8) rfl
  rw [e1] at e
  cases e
  obtain ⟨b, e, k4⟩ := sh_o h0.1 k8 (j := 4) (k := 4) rfl
  rw [e2] at e
  cases e
  have z : I b2 4 = 0 := ((h0.2 b2 4 k4).1 4).trans (by simp [jz])
  unfold f_X4_takeBack
  exact ⟨fun e => absurd z e, fun _ => ⟨fun _ => h, fun e => absurd rfl e⟩⟩
def en (v : Int32) : Int32 := if v = 0 then 1 else 0
theorem x_end {v1 : Int32} {v0 : Nat} {Z : jZ} {I : jI} {L : jL} {Q : Int32 → jI → jL → Prop} (h0 : NEW Z I L) (k : jk Z v0 11) (h : ∀ I', (∀ a, jk Z a 12 → I' a = I a) → Q (en v1) I' L) : f_X11_end v0 v1 Z I L Q := by
  unfold f_X11_end
  intro b1 e1
  obtain ⟨b, e, k10⟩ := sh_o h0.1 k (j := 0) (k := 10) rfl
  rw [e1] at e
  cases e
  have z : I b1 1 = 0 := ((h0.2 b1 10 k10).1 1).trans (by simp [jz])
  unfold f_X10_cut
  rw [z]
  refine ⟨fun c => ?_, fun c => ⟨fun d I3 e3 => ?_, fun d => ?_⟩⟩
  · have n : v1 ≠ 0 := fun e => absurd (e ▸ c) (by decide)
    simpa [en, n] using h I (fun _ _ => rfl)
  · have n : v1 = 0 := Int32.le_antisymm d (Int32.not_lt.mp c)
    have := h I3 (fun a ka => by rw [e3]; exact va_up_ne _ _ (fun e => by subst e; exact absurd (jk_one ka k10) (by decide)))
    simpa [en, n] using this
  · have n : v1 ≠ 0 := fun e => d (by rw [e]; decide)
    simpa [en, n] using h I (fun _ _ => rfl)
theorem m_end {v1 : Int32} {v0 : Nat} {Z : jZ} {I : jI} {L : jL} {Q : Int32 → jI → jL → Prop} (h0 : MN I v0) (h : ∀ I, Q (en v1) I L) : f_X12_end v0 v1 Z I L Q := by
  unfold f_X12_end
  intro I1 e1
  have h0 : MN I1 v0 := by rw [e1]; exact h0.put
  rw [show I1 v0 19 = 0 from (h0 19 (by decide)).trans (by simp [jz])]
  unfold f_X12_in
  refine ⟨fun c => ⟨fun e => absurd rfl e, fun _ => ?_⟩, fun c => ⟨fun d => ⟨fun e => absurd rfl e, fun _ => ?_⟩, fun d => ⟨fun _ I9 e9 => ?_, fun e => absurd e (by decide)⟩⟩⟩
  · have n : v1 ≠ 0 := fun e => absurd (e ▸ c) (by decide)
    simpa [en, n] using h I1
  · have n : v1 ≠ 0 := fun e => absurd (e ▸ d) (by decide)
    simpa [en, n] using h I1
  · have n : v1 = 0 := Int32.le_antisymm (Int32.not_lt.mp d) (Int32.not_lt.mp c)
    simpa [en, n] using h I9
theorem MN.of {Z : jZ} {I I' : jI} {v : Nat} (h : MN I v) (k : jk Z v 12) (e : ∀ a, jk Z a 12 → I' a = I a) : MN I' v := fun j hj => by rw [e v k]; exact h j hj
section P1CASES2
variable {xs : Nat → Int32} {K : Nat → Nat → Nat → Int32 → jZ → jI → jL → Prop} {v1 v2 v3 : Nat} {Z : jZ} {I : jI} {L : jL}
theorem tc_wears (hN : NEW Z I L) (k1 : jk Z v1 11) (k2 : jk Z v2 12) (hK : ∀ Z I L, K v1 v2 v3 6 Z I L) : f_L_law_b575 xs 6 K v1 v2 v3 0 Z I L := by
  unfold f_L_law_b575
  exact ⟨vi1, x_wears (hN.x k1) ⟨vi1, m_wears (hN.m k2) (fun I => ⟨fun _ => tc_end_ hK _ _ _, fun e => absurd rfl e⟩)⟩⟩
theorem tc_undo (hN : NEW Z I L) (k1 : jk Z v1 11) (k2 : jk Z v2 12) (hK : ∀ Z I L, K v1 v2 v3 6 Z I L) : f_L_law_b1573 xs 6 K v1 v2 v3 0 Z I L := by
  unfold f_L_law_b1573
  exact x_undo hN k1 (m_undo (hN.m k2) (fun I => ⟨fun _ => tc_end_ hK _ _ _, fun e => absurd rfl e⟩))
theorem tc_end (hN : NEW Z I L) (k1 : jk Z v1 11) (k2 : jk Z v2 12) (hK : ∀ Z I L, K v1 v2 v3 6 Z I L) : f_L_law_b269 xs 6 K v1 v2 v3 0 Z I L := by
  unfold f_L_law_b269
  exact ⟨vi1, x_end hN k1 (fun I' e => ⟨vi1, m_end ((hN.m k2).of k2 e) (fun I => ⟨fun _ => tc_end_ hK _ _ _, fun e => absurd rfl e⟩)⟩)⟩
end P1CASES2
