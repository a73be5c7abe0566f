/-! ===== the law's helpers ===== -/
theorem s_L_step {Z : jZ} {I : jI} {L : jL} (w_I : WD Z I) (v0 : Nat) (v1 v2 : Int32) (v3 : Nat) (kv0 : jk Z v0 11) (hl : jlen Z v3 = 1) {Q : Int32 → jI → jL → Prop} (hQ : ∀ (r : Int32) (L' : jL), Q r I L') : f_L_step v0 v1 v2 v3 Z I L Q := by
  unfold f_L_step
  exact s_X11_step w_I v0 v1 v2 kv0 (fun r => ⟨by rw [hl]; exact vp_in_lit (by decide), fun L8 _ => hQ 0 L8⟩) (hQ 1 L)
theorem s_L_of {Z : jZ} {I : jI} {L : jL} (w_I : WD Z I) (v0 : Nat) (v1 v2 : Int32) (v3 : Nat) (kv0 : jk Z v0 11) (hl : jlen Z v3 = 1) {Q : Int32 → jI → jL → Prop} (hQ : ∀ (r : Int32) (L' : jL), Q r I L') : f_L_of v0 v1 v2 v3 Z I L Q := by
  unfold f_L_of
  exact s_X11_of w_I v0 v1 v2 kv0 (fun r => ⟨by rw [hl]; exact vp_in_lit (by decide), fun L8 _ => hQ 0 L8⟩) (hQ 1 L)
theorem s_L_row {Z : jZ} {I : jI} {L : jL} (w_I : WD Z I) (v0 : Nat) (v1 : Int32) (v2 : Nat) (kv0 : jk Z v0 11) (hl : jlen Z v2 = 1) {Q : Int32 → jI → jL → Prop} (hQ : ∀ (r : Int32) (L' : jL), Q r I L') : f_L_row v0 v1 v2 Z I L Q := by
  unfold f_L_row
  exact s_X11_row w_I v0 v1 kv0 (fun r => ⟨by rw [hl]; exact vp_in_lit (by decide), fun L8 _ => hQ 0 L8⟩) (hQ 1 L)
