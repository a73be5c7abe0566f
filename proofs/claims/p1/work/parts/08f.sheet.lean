/-! ===== p1: sheet ===== -/
def sa (v w : Int32) : Int32 := if v < 0 then -1 else if 3 < v then -1 else if w ≤ 24 then (if v = 3 then -3 else if 0 ≤ w then 0 else -2) else -1
theorem asks0 {b : Nat} {Z : jZ} {I : jI} {L : jL} {Q : Int32 → jI → jL → Prop} (h9 : I b 9 = 0) (h : Q 0 I L) : f_X8_sumOfAsks b Z I L Q := by
  unfold f_X8_sumOfAsks
  exact ⟨1, fun _ => h, fun e => absurd (show I b 9 ≤ 0 by rw [h9]; decide) e⟩
theorem sheetL {v0 : Nat} {v1 v3 v4 v5 v6 : Int32} {Z : jZ} {I : jI} {L : jL} {Q : Int32 → jI → jL → Prop} (h0 : XN Z I v0) (h : Q (if v5 = 0 then 0 else -3) I L) : f_X11_sheet_b51 Z Q v0 v1 v3 v4 v5 v6 I L := by
  unfold f_X11_sheet_b51
  refine ⟨1, fun b eb => ⟨fun _ => ⟨fun c b7 e7 => asks0 (h0.2.1 b7 e7) (by simpa [c] using h), fun c => by simpa [c] using h⟩, fun e => absurd (show I b 9 ≤ 0 by rw [h0.2.1 b eb]; decide) e⟩⟩
theorem sheetB {v0 : Nat} {v1 v2 v3 v4 v5 : Int32} {Z : jZ} {I : jI} {L : jL} {Q : Int32 → jI → jL → Prop} (h0 : XN Z I v0) (h : Q (if v5 = 0 then 0 else -3) I L) : f_X11_sheet_b41 Z Q v0 v1 v2 v3 v4 v5 I L := by
  unfold f_X11_sheet_b41
  exact ⟨fun _ => sheetL h0 h, fun _ => sheetL h0 h⟩
theorem x_sheet {v1 v2 v3 v4 : Int32} {v0 : Nat} {Z : jZ} {I : jI} {L : jL} {Q : Int32 → jI → jL → Prop} (h0 : XN Z I v0) (h : Q (sa v1 v2) I L) : f_X11_sheet v0 v1 v2 v3 v4 Z I L Q := by
  unfold f_X11_sheet f_X11_sheet_b27
  refine ⟨fun c => by simpa [sa, c] using h, fun c => ⟨fun d => by simpa [sa, c, d] using h, fun d => ⟨fun e => ⟨fun g => ?_, fun g => ?_⟩, fun e => by simpa [sa, c, d, e] using h⟩⟩⟩
  · refine ⟨fun q => absurd rfl q, fun _ => ⟨fun q => sheetB h0 (by simpa [sa, c, d, e, g, q] using h), fun q => by simpa [sa, c, d, e, g, q] using h⟩⟩
  · exact ⟨fun _ => sheetB h0 (by subst g; simpa [sa, c, d, e] using h), fun q => absurd q (by decide)⟩
theorem sheetM {v0 : Nat} {v1 v2 v3 v4 : Int32} {Z : jZ} {I : jI} {L : jL} {Q : Int32 → jI → jL → Prop} (h0 : MN I v0) (h : Q (if v1 = 3 then -3 else 0) I L) : f_X12_sheet_b34 Z Q v0 v1 v2 v3 v4 I L := by
  unfold f_X12_sheet_b34
  exact ⟨1, fun _ => ⟨fun c => by simpa [c] using h, fun c => by simpa [c] using h⟩, fun e => absurd (show I v0 0 ≤ 0 by rw [h0 0 (by decide)]; decide) e⟩
theorem m_sheet {v1 v2 v3 v4 : Int32} {v0 : Nat} {Z : jZ} {I : jI} {L : jL} {Q : Int32 → jI → jL → Prop} (h0 : MN I v0) (h : ∀ I, Q (sa v1 v2) I L) : f_X12_sheet v0 v1 v2 v3 v4 Z I L Q := by
  unfold f_X12_sheet
  intro I1 e1
  have h0 : MN I1 v0 := by rw [e1]; exact h0.put
  have h := h I1
  unfold f_X12_in
  refine ⟨fun c => ⟨fun _ => by simpa [sa, c] using h, fun e => absurd rfl e⟩, fun c => ⟨fun d => ⟨fun _ => by simpa [sa, c, d] using h, fun e => absurd rfl e⟩, fun d => ⟨fun e => absurd e (by decide), fun _ => ⟨fun e => ⟨fun g => ?_, fun g => ⟨fun q => ?_, fun q => ?_⟩⟩, fun e => by simpa [sa, c, d, e] using h⟩⟩⟩⟩
  · have g3 : v1 = 3 := Int32.le_antisymm (Int32.not_lt.mp d) g
    exact sheetM h0 (by subst g3; simpa [sa, e] using h)
  · have g3 : v1 ≠ 3 := fun x => g (by rw [x]; decide)
    exact sheetM h0 (by simpa [sa, c, d, e, g3, q] using h)
  · have g3 : v1 ≠ 3 := fun x => g (by rw [x]; decide)
    simpa [sa, c, d, e, g3, q] using h
section P1CASES4
variable {xs : Nat → Int32} {K : Nat → Nat → Nat → Int32 → jZ → jI → jL → Prop} {v1 v2 v3 : Nat} {Z : jZ} {I : jI} {L : jL}
theorem tc_sheet (hN : NEW Z I L) (k1 : jk Z v1 11) (k2 : jk Z v2 12) (hK : ∀ Z I L, K v1 v2 v3 6 Z I L) : f_L_law_b449 xs 6 K v1 v2 v3 0 Z I L := by
  unfold f_L_law_b449
  exact ⟨vi1, vi2, vi3, vi4, x_sheet (hN.x k1) ⟨vi1, vi2, vi3, vi4, m_sheet (hN.m k2) (fun I => ⟨fun _ => tc_end_ hK _ _ _, fun e => absurd rfl e⟩)⟩⟩
end P1CASES4
