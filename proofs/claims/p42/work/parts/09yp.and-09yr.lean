section
/-! ===== what is shown twice holds at once ===== -/
set_option maxHeartbeats 4000000 in
theorem and_X8_has {v0 : Nat} {v1 : Int32} {Z : jZ} {I : jI} {L : jL} {Q1 Q2 Q3 : Int32 → jI → jL → Prop} (h1 : f_X8_has v0 v1 Z I L Q1) (h2 : f_X8_has v0 v1 Z I L Q2) (hq : ∀ (x0 : Int32) (x1 : jI) (x2 : jL), Q1 x0 x1 x2 → Q2 x0 x1 x2 → Q3 x0 x1 x2) : f_X8_has v0 v1 Z I L Q3 := by
  unfold f_X8_has at h1 h2 ⊢
  refine ⟨fun c => ?_, fun c => ?_⟩
  · have h1 := h1.1 c
    have h2 := h2.1 c
    exact hq _ _ _ h1 h2
  · have h1 := h1.2 c
    have h2 := h2.2 c
    refine ⟨fun c => ?_, fun c => ?_⟩
    · have h1 := h1.1 c
      have h2 := h2.1 c
      exact hq _ _ _ h1 h2
    · have h1 := h1.2 c
      have h2 := h2.2 c
      refine ⟨fun c => ?_, fun c => ?_⟩
      · have h1 := h1.1 c
        have h2 := h2.1 c
        exact hq _ _ _ h1 h2
      · have h1 := h1.2 c
        have h2 := h2.2 c
        exact hq _ _ _ h1 h2
set_option maxHeartbeats 4000000 in
theorem and_X11_isFamily {v0 : Int32} {Z : jZ} {I : jI} {L : jL} {Q1 Q2 Q3 : Int32 → jI → jL → Prop} (h1 : f_X11_isFamily v0 Z I L Q1) (h2 : f_X11_isFamily v0 Z I L Q2) (hq : ∀ (x0 : Int32) (x1 : jI) (x2 : jL), Q1 x0 x1 x2 → Q2 x0 x1 x2 → Q3 x0 x1 x2) : f_X11_isFamily v0 Z I L Q3 := by
  unfold f_X11_isFamily at h1 h2 ⊢
  refine ⟨fun c => ?_, fun c => ?_⟩
  · have h1 := h1.1 c
    have h2 := h2.1 c
    exact hq _ _ _ h1 h2
  · have h1 := h1.2 c
    have h2 := h2.2 c
    refine ⟨fun c => ?_, fun c => ?_⟩
    · have h1 := h1.1 c
      have h2 := h2.1 c
      exact hq _ _ _ h1 h2
    · have h1 := h1.2 c
      have h2 := h2.2 c
      exact hq _ _ _ h1 h2
set_option maxHeartbeats 4000000 in
theorem and_X4_shareOf {v0 : Nat} {v1 : Int32} {v2 : Int32} {Z : jZ} {I : jI} {L : jL} {Q1 Q2 Q3 : Int32 → jI → jL → Prop} (h1 : f_X4_shareOf v0 v1 v2 Z I L Q1) (h2 : f_X4_shareOf v0 v1 v2 Z I L Q2) (hq : ∀ (x0 : Int32) (x1 : jI) (x2 : jL), Q1 x0 x1 x2 → Q2 x0 x1 x2 → Q3 x0 x1 x2) : f_X4_shareOf v0 v1 v2 Z I L Q3 := by
  unfold f_X4_shareOf at h1 h2 ⊢
  refine ⟨fun c => ?_, fun c => ?_⟩
  · have h1 := h1.1 c
    have h2 := h2.1 c
    exact hq _ _ _ h1 h2
  · have h1 := h1.2 c
    have h2 := h2.2 c
    refine ⟨fun c => ?_, fun c => ?_⟩
    · have h1 := h1.1 c
      have h2 := h2.1 c
      exact hq _ _ _ h1 h2
    · have h1 := h1.2 c
      have h2 := h2.2 c
      refine and_X11_isFamily h1 h2 (fun r9 I5 L6 h1 h2 => ?_)
      refine ⟨fun c => ?_, fun c => ?_⟩
      · have h1 := h1.1 c
        have h2 := h2.1 c
        exact hq _ _ _ h1 h2
      · have h1 := h1.2 c
        have h2 := h2.2 c
        intro b11 eb11
        have h1 := h1 b11 eb11
        have h2 := h2 b11 eb11
        refine ⟨h1.1, ?_⟩
        have h1 := h1.2
        have h2 := h2.2
        exact hq _ _ _ h1 h2
set_option maxHeartbeats 4000000 in
theorem and_X4_remember {v0 : Nat} {Z : jZ} {I : jI} {L : jL} {Q1 Q2 Q3 : jI → jL → Prop} (h1 : f_X4_remember v0 Z I L Q1) (h2 : f_X4_remember v0 Z I L Q2) (hq : ∀ (x0 : jI) (x1 : jL), Q1 x0 x1 → Q2 x0 x1 → Q3 x0 x1) : f_X4_remember v0 Z I L Q3 := by
  unfold f_X4_remember at h1 h2 ⊢
  refine ⟨fun c => ?_, fun c => ?_⟩
  · have h1 := h1.1 c
    have h2 := h2.1 c
    unfold f_X4_remember_b32 at h1 h2 ⊢
    intro x1 ex1
    have h1 := h1 x1 ex1
    have h2 := h2 x1 ex1
    intro b2 eb2
    have h1 := h1 b2 eb2
    have h2 := h2 b2 eb2
    intro b3 eb3
    have h1 := h1 b3 eb3
    have h2 := h2 b3 eb3
    refine ⟨h1.1, ?_⟩
    have h1 := h1.2
    have h2 := h2.2
    intro I5 eI5
    have h1 := h1 I5 eI5
    have h2 := h2 I5 eI5
    intro I6 eI6
    have h1 := h1 I6 eI6
    have h2 := h2 I6 eI6
    exact hq _ _ h1 h2
  · have h1 := h1.2 c
    have h2 := h2.2 c
    intro I8 eI8
    have h1 := h1 I8 eI8
    have h2 := h2 I8 eI8
    intro I9 eI9
    have h1 := h1 I9 eI9
    have h2 := h2 I9 eI9
    unfold f_X4_remember_b32 at h1 h2 ⊢
    intro x1 ex1
    have h1 := h1 x1 ex1
    have h2 := h2 x1 ex1
    intro b2 eb2
    have h1 := h1 b2 eb2
    have h2 := h2 b2 eb2
    intro b3 eb3
    have h1 := h1 b3 eb3
    have h2 := h2 b3 eb3
    refine ⟨h1.1, ?_⟩
    have h1 := h1.2
    have h2 := h2.2
    intro I5 eI5
    have h1 := h1 I5 eI5
    have h2 := h2 I5 eI5
    intro I6 eI6
    have h1 := h1 I6 eI6
    have h2 := h2 I6 eI6
    exact hq _ _ h1 h2
set_option maxHeartbeats 4000000 in
theorem and_X4_findMain_L4 {Z : jZ} {Q1 Q2 Q3 : jI → jL → Prop} (hq : ∀ (x0 : jI) (x1 : jL), Q1 x0 x1 → Q2 x0 x1 → Q3 x0 x1) : ∀ (n m : Nat) (v0 : Nat) (v1 : Int32) (v2 : Int32) (v3 : Int32) (I : jI) (L : jL), f_X4_findMain_L4 Z Q1 n v0 v1 v2 v3 I L → f_X4_findMain_L4 Z Q2 m v0 v1 v2 v3 I L → f_X4_findMain_L4 Z Q3 n v0 v1 v2 v3 I L := by
  intro n
  induction n with
  | zero => intro m v0 v1 v2 v3 I L h1 h2; exact h1.elim
  | succ n ih =>
    intro m v0 v1 v2 v3 I L h1 h2
    cases m with
    | zero => exact h2.elim
    | succ m =>
      unfold f_X4_findMain_L4 at h1 h2 ⊢
      refine ⟨fun c => ?_, fun c => ?_⟩
      · have h1 := h1.1 c
        have h2 := h2.1 c
        intro b3 eb3
        have h1 := h1 b3 eb3
        have h2 := h2 b3 eb3
        refine ⟨h1.1, ?_⟩
        have h1 := h1.2
        have h2 := h2.2
        intro I5 eI5
        have h1 := h1 I5 eI5
        have h2 := h2 I5 eI5
        exact hq _ _ h1 h2
      · have h1 := h1.2 c
        have h2 := h2.2 c
        intro b6 eb6
        have h1 := h1 b6 eb6
        have h2 := h2 b6 eb6
        refine ⟨h1.1, ?_⟩
        have h1 := h1.2
        have h2 := h2.2
        intro b8 eb8
        have h1 := h1 b8 eb8
        have h2 := h2 b8 eb8
        refine ⟨h1.1, ?_⟩
        have h1 := h1.2
        have h2 := h2.2
        refine ⟨fun c => ?_, fun c => ?_⟩
        · have h1 := h1.1 c
          have h2 := h2.1 c
          unfold f_X4_findMain_b40 at h1 h2 ⊢
          intro x1 ex1
          have h1 := h1 x1 ex1
          have h2 := h2 x1 ex1
          exact ih _ _ _ _ _ _ _ h1 h2
        · have h1 := h1.2 c
          have h2 := h2.2 c
          unfold f_X4_findMain_b40 at h1 h2 ⊢
          intro x1 ex1
          have h1 := h1 x1 ex1
          have h2 := h2 x1 ex1
          exact ih _ _ _ _ _ _ _ h1 h2
set_option maxHeartbeats 4000000 in
theorem and_X4_findMain {v0 : Nat} {v1 : Int32} {Z : jZ} {I : jI} {L : jL} {Q1 Q2 Q3 : jI → jL → Prop} (h1 : f_X4_findMain v0 v1 Z I L Q1) (h2 : f_X4_findMain v0 v1 Z I L Q2) (hq : ∀ (x0 : jI) (x1 : jL), Q1 x0 x1 → Q2 x0 x1 → Q3 x0 x1) : f_X4_findMain v0 v1 Z I L Q3 := by
  unfold f_X4_findMain at h1 h2 ⊢
  obtain ⟨n1, h1⟩ := h1
  obtain ⟨n2, h2⟩ := h2
  exact ⟨n1, and_X4_findMain_L4  hq n1 n2 _ _ _ _ _ _ h1 h2⟩
set_option maxHeartbeats 4000000 in
theorem and_X4_move {v0 : Nat} {v1 : Int32} {v2 : Int32} {v3 : Int32} {v4 : Int32} {Z : jZ} {I : jI} {L : jL} {Q1 Q2 Q3 : jI → jL → Prop} (h1 : f_X4_move v0 v1 v2 v3 v4 Z I L Q1) (h2 : f_X4_move v0 v1 v2 v3 v4 Z I L Q2) (hq : ∀ (x0 : jI) (x1 : jL), Q1 x0 x1 → Q2 x0 x1 → Q3 x0 x1) : f_X4_move v0 v1 v2 v3 v4 Z I L Q3 := by
  unfold f_X4_move at h1 h2 ⊢
  refine ⟨fun c => ?_, fun c => ?_⟩
  · have h1 := h1.1 c
    have h2 := h2.1 c
    exact hq _ _ h1 h2
  · have h1 := h1.2 c
    have h2 := h2.2 c
    refine ⟨fun c => ?_, fun c => ?_⟩
    · have h1 := h1.1 c
      have h2 := h2.1 c
      exact hq _ _ h1 h2
    · have h1 := h1.2 c
      have h2 := h2.2 c
      refine and_X11_isFamily h1 h2 (fun r9 I5 L6 h1 h2 => ?_)
      refine ⟨fun c => ?_, fun c => ?_⟩
      · have h1 := h1.1 c
        have h2 := h2.1 c
        exact hq _ _ h1 h2
      · have h1 := h1.2 c
        have h2 := h2.2 c
        refine and_X11_isFamily h1 h2 (fun r17 I13 L14 h1 h2 => ?_)
        refine ⟨fun c => ?_, fun c => ?_⟩
        · have h1 := h1.1 c
          have h2 := h2.1 c
          exact hq _ _ h1 h2
        · have h1 := h1.2 c
          have h2 := h2.2 c
          intro b19 eb19
          have h1 := h1 b19 eb19
          have h2 := h2 b19 eb19
          refine ⟨h1.1, ?_⟩
          have h1 := h1.2
          have h2 := h2.2
          refine ⟨h1.1, ?_⟩
          have h1 := h1.2
          have h2 := h2.2
          intro I22 eI22
          have h1 := h1 I22 eI22
          have h2 := h2 I22 eI22
          intro b23 eb23
          have h1 := h1 b23 eb23
          have h2 := h2 b23 eb23
          refine ⟨h1.1, ?_⟩
          have h1 := h1.2
          have h2 := h2.2
          refine ⟨h1.1, ?_⟩
          have h1 := h1.2
          have h2 := h2.2
          intro I26 eI26
          have h1 := h1 I26 eI26
          have h2 := h2 I26 eI26
          refine and_X4_findMain h1 h2 (fun I29 L30 h1 h2 => ?_)
          exact hq _ _ h1 h2
set_option maxHeartbeats 4000000 in
theorem and_X11_sells {v0 : Nat} {v1 : Int32} {v2 : Int32} {v3 : Int32} {v4 : Int32} {v5 : Int32} {Z : jZ} {I : jI} {L : jL} {Q1 Q2 Q3 : Int32 → jI → jL → Prop} (h1 : f_X11_sells v0 v1 v2 v3 v4 v5 Z I L Q1) (h2 : f_X11_sells v0 v1 v2 v3 v4 v5 Z I L Q2) (hq : ∀ (x0 : Int32) (x1 : jI) (x2 : jL), Q1 x0 x1 x2 → Q2 x0 x1 x2 → Q3 x0 x1 x2) : f_X11_sells v0 v1 v2 v3 v4 v5 Z I L Q3 := by
  unfold f_X11_sells at h1 h2 ⊢
  intro b1 eb1
  have h1 := h1 b1 eb1
  have h2 := h2 b1 eb1
  refine and_X8_has h1 h2 (fun r8 I4 L5 h1 h2 => ?_)
  refine ⟨fun c => ?_, fun c => ?_⟩
  · have h1 := h1.1 c
    have h2 := h2.1 c
    exact hq _ _ _ h1 h2
  · have h1 := h1.2 c
    have h2 := h2.2 c
    refine and_X11_isFamily h1 h2 (fun r16 I12 L13 h1 h2 => ?_)
    refine ⟨fun c => ?_, fun c => ?_⟩
    · have h1 := h1.1 c
      have h2 := h2.1 c
      exact hq _ _ _ h1 h2
    · have h1 := h1.2 c
      have h2 := h2.2 c
      refine and_X11_isFamily h1 h2 (fun r24 I20 L21 h1 h2 => ?_)
      refine ⟨fun c => ?_, fun c => ?_⟩
      · have h1 := h1.1 c
        have h2 := h2.1 c
        exact hq _ _ _ h1 h2
      · have h1 := h1.2 c
        have h2 := h2.2 c
        refine ⟨fun c => ?_, fun c => ?_⟩
        · have h1 := h1.1 c
          have h2 := h2.1 c
          refine ⟨fun c => ?_, fun c => ?_⟩
          · have h1 := h1.1 c
            have h2 := h2.1 c
            exact hq _ _ _ h1 h2
          · have h1 := h1.2 c
            have h2 := h2.2 c
            refine ⟨fun c => ?_, fun c => ?_⟩
            · have h1 := h1.1 c
              have h2 := h2.1 c
              exact hq _ _ _ h1 h2
            · have h1 := h1.2 c
              have h2 := h2.2 c
              refine ⟨fun c => ?_, fun c => ?_⟩
              · have h1 := h1.1 c
                have h2 := h2.1 c
                intro b30 eb30
                have h1 := h1 b30 eb30
                have h2 := h2 b30 eb30
                intro b31 eb31
                have h1 := h1 b31 eb31
                have h2 := h2 b31 eb31
                refine and_X4_shareOf h1 h2 (fun r38 I34 L35 h1 h2 => ?_)
                refine ⟨h1.1, ?_⟩
                have h1 := h1.2
                have h2 := h2.2
                intro x40 ex40
                have h1 := h1 x40 ex40
                have h2 := h2 x40 ex40
                refine ⟨fun c => ?_, fun c => ?_⟩
                · have h1 := h1.1 c
                  have h2 := h2.1 c
                  intro b42 eb42
                  have h1 := h1 b42 eb42
                  have h2 := h2 b42 eb42
                  intro b43 eb43
                  have h1 := h1 b43 eb43
                  have h2 := h2 b43 eb43
                  refine and_X4_remember h1 h2 (fun I46 L47 h1 h2 => ?_)
                  intro b50 eb50
                  have h1 := h1 b50 eb50
                  have h2 := h2 b50 eb50
                  intro b51 eb51
                  have h1 := h1 b51 eb51
                  have h2 := h2 b51 eb51
                  refine and_X4_move h1 h2 (fun I54 L55 h1 h2 => ?_)
                  exact hq _ _ _ h1 h2
                · have h1 := h1.2 c
                  have h2 := h2.2 c
                  exact hq _ _ _ h1 h2
              · have h1 := h1.2 c
                have h2 := h2.2 c
                exact hq _ _ _ h1 h2
        · have h1 := h1.2 c
          have h2 := h2.2 c
          exact hq _ _ _ h1 h2
set_option maxHeartbeats 4000000 in
theorem and_X4_findMains_L2 {Z : jZ} {Q1 Q2 Q3 : jI → jL → Prop} (hq : ∀ (x0 : jI) (x1 : jL), Q1 x0 x1 → Q2 x0 x1 → Q3 x0 x1) : ∀ (n m : Nat) (v0 : Nat) (v1 : Int32) (I : jI) (L : jL), f_X4_findMains_L2 Z Q1 n v0 v1 I L → f_X4_findMains_L2 Z Q2 m v0 v1 I L → f_X4_findMains_L2 Z Q3 n v0 v1 I L := by
  intro n
  induction n with
  | zero => intro m v0 v1 I L h1 h2; exact h1.elim
  | succ n ih =>
    intro m v0 v1 I L h1 h2
    cases m with
    | zero => exact h2.elim
    | succ m =>
      unfold f_X4_findMains_L2 at h1 h2 ⊢
      refine ⟨fun c => ?_, fun c => ?_⟩
      · have h1 := h1.1 c
        have h2 := h2.1 c
        exact hq _ _ h1 h2
      · have h1 := h1.2 c
        have h2 := h2.2 c
        refine and_X4_findMain h1 h2 (fun I4 L5 h1 h2 => ?_)
        intro x8 ex8
        have h1 := h1 x8 ex8
        have h2 := h2 x8 ex8
        exact ih _ _ _ _ _ h1 h2
set_option maxHeartbeats 4000000 in
theorem and_X4_findMains {v0 : Nat} {Z : jZ} {I : jI} {L : jL} {Q1 Q2 Q3 : jI → jL → Prop} (h1 : f_X4_findMains v0 Z I L Q1) (h2 : f_X4_findMains v0 Z I L Q2) (hq : ∀ (x0 : jI) (x1 : jL), Q1 x0 x1 → Q2 x0 x1 → Q3 x0 x1) : f_X4_findMains v0 Z I L Q3 := by
  unfold f_X4_findMains at h1 h2 ⊢
  obtain ⟨n1, h1⟩ := h1
  obtain ⟨n2, h2⟩ := h2
  exact ⟨n1, and_X4_findMains_L2  hq n1 n2 _ _ _ _ h1 h2⟩
set_option maxHeartbeats 4000000 in
theorem and_X4_takeBack {v0 : Nat} {Z : jZ} {I : jI} {L : jL} {Q1 Q2 Q3 : Int32 → jI → jL → Prop} (h1 : f_X4_takeBack v0 Z I L Q1) (h2 : f_X4_takeBack v0 Z I L Q2) (hq : ∀ (x0 : Int32) (x1 : jI) (x2 : jL), Q1 x0 x1 x2 → Q2 x0 x1 x2 → Q3 x0 x1 x2) : f_X4_takeBack v0 Z I L Q3 := by
  unfold f_X4_takeBack at h1 h2 ⊢
  refine ⟨fun c => ?_, fun c => ?_⟩
  · have h1 := h1.1 c
    have h2 := h2.1 c
    intro I2 eI2
    have h1 := h1 I2 eI2
    have h2 := h2 I2 eI2
    intro x3 ex3
    have h1 := h1 x3 ex3
    have h2 := h2 x3 ex3
    intro b4 eb4
    have h1 := h1 b4 eb4
    have h2 := h2 b4 eb4
    intro b5 eb5
    have h1 := h1 b5 eb5
    have h2 := h2 b5 eb5
    refine ⟨h1.1, ?_⟩
    have h1 := h1.2
    have h2 := h2.2
    intro I7 eI7
    have h1 := h1 I7 eI7
    have h2 := h2 I7 eI7
    refine and_X4_findMains h1 h2 (fun I10 L11 h1 h2 => ?_)
    exact hq _ _ _ h1 h2
  · have h1 := h1.2 c
    have h2 := h2.2 c
    exact hq _ _ _ h1 h2
set_option maxHeartbeats 4000000 in
theorem and_X11_undo {v0 : Nat} {Z : jZ} {I : jI} {L : jL} {Q1 Q2 Q3 : Int32 → jI → jL → Prop} (h1 : f_X11_undo v0 Z I L Q1) (h2 : f_X11_undo v0 Z I L Q2) (hq : ∀ (x0 : Int32) (x1 : jI) (x2 : jL), Q1 x0 x1 x2 → Q2 x0 x1 x2 → Q3 x0 x1 x2) : f_X11_undo v0 Z I L Q3 := by
  unfold f_X11_undo at h1 h2 ⊢
  intro b1 eb1
  have h1 := h1 b1 eb1
  have h2 := h2 b1 eb1
  intro b2 eb2
  have h1 := h1 b2 eb2
  have h2 := h2 b2 eb2
  refine and_X4_takeBack h1 h2 (fun r9 I5 L6 h1 h2 => ?_)
  refine ⟨fun c => ?_, fun c => ?_⟩
  · have h1 := h1.1 c
    have h2 := h2.1 c
    exact hq _ _ _ h1 h2
  · have h1 := h1.2 c
    have h2 := h2.2 c
    intro b11 eb11
    have h1 := h1 b11 eb11
    have h2 := h2 b11 eb11
    intro b12 eb12
    have h1 := h1 b12 eb12
    have h2 := h2 b12 eb12
    exact hq _ _ _ h1 h2
set_option maxHeartbeats 4000000 in
theorem and_X4_sumOf_L4 {Z : jZ} {Q1 Q2 Q3 : Int32 → jI → jL → Prop} (hq : ∀ (x0 : Int32) (x1 : jI) (x2 : jL), Q1 x0 x1 x2 → Q2 x0 x1 x2 → Q3 x0 x1 x2) : ∀ (n m : Nat) (v0 : Nat) (v1 : Int32) (v2 : Int32) (v3 : Int32) (I : jI) (L : jL), f_X4_sumOf_L4 Z Q1 n v0 v1 v2 v3 I L → f_X4_sumOf_L4 Z Q2 m v0 v1 v2 v3 I L → f_X4_sumOf_L4 Z Q3 n v0 v1 v2 v3 I L := by
  intro n
  induction n with
  | zero => intro m v0 v1 v2 v3 I L h1 h2; exact h1.elim
  | succ n ih =>
    intro m v0 v1 v2 v3 I L h1 h2
    cases m with
    | zero => exact h2.elim
    | succ m =>
      unfold f_X4_sumOf_L4 at h1 h2 ⊢
      refine ⟨fun c => ?_, fun c => ?_⟩
      · have h1 := h1.1 c
        have h2 := h2.1 c
        exact hq _ _ _ h1 h2
      · have h1 := h1.2 c
        have h2 := h2.2 c
        refine and_X4_shareOf h1 h2 (fun r8 I4 L5 h1 h2 => ?_)
        intro x9 ex9
        have h1 := h1 x9 ex9
        have h2 := h2 x9 ex9
        intro x10 ex10
        have h1 := h1 x10 ex10
        have h2 := h2 x10 ex10
        exact ih _ _ _ _ _ _ _ h1 h2
set_option maxHeartbeats 4000000 in
theorem and_X4_sumOf {v0 : Nat} {v1 : Int32} {Z : jZ} {I : jI} {L : jL} {Q1 Q2 Q3 : Int32 → jI → jL → Prop} (h1 : f_X4_sumOf v0 v1 Z I L Q1) (h2 : f_X4_sumOf v0 v1 Z I L Q2) (hq : ∀ (x0 : Int32) (x1 : jI) (x2 : jL), Q1 x0 x1 x2 → Q2 x0 x1 x2 → Q3 x0 x1 x2) : f_X4_sumOf v0 v1 Z I L Q3 := by
  unfold f_X4_sumOf at h1 h2 ⊢
  obtain ⟨n1, h1⟩ := h1
  obtain ⟨n2, h2⟩ := h2
  exact ⟨n1, and_X4_sumOf_L4  hq n1 n2 _ _ _ _ _ _ h1 h2⟩
set_option maxHeartbeats 4000000 in
theorem and_J6_bitCount_0f7a4 {v0 : Int32} {Z : jZ} {I : jI} {L : jL} {Q1 Q2 Q3 : Int32 → jI → jL → Prop} (h1 : f_J6_bitCount_0f7a4 v0 Z I L Q1) (h2 : f_J6_bitCount_0f7a4 v0 Z I L Q2) (hq : ∀ (x0 : Int32) (x1 : jI) (x2 : jL), Q1 x0 x1 x2 → Q2 x0 x1 x2 → Q3 x0 x1 x2) : f_J6_bitCount_0f7a4 v0 Z I L Q3 := by
  unfold f_J6_bitCount_0f7a4 at h1 h2 ⊢
  intro x1 ex1
  have h1 := h1 x1 ex1
  have h2 := h2 x1 ex1
  intro x2 ex2
  have h1 := h1 x2 ex2
  have h2 := h2 x2 ex2
  intro x3 ex3
  have h1 := h1 x3 ex3
  have h2 := h2 x3 ex3
  intro x4 ex4
  have h1 := h1 x4 ex4
  have h2 := h2 x4 ex4
  intro x5 ex5
  have h1 := h1 x5 ex5
  have h2 := h2 x5 ex5
  exact hq _ _ _ h1 h2
set_option maxHeartbeats 4000000 in
theorem and_X4_inherit_L30 {Z : jZ} {Q1 Q2 Q3 : jI → jL → Prop} (hq : ∀ (x0 : jI) (x1 : jL), Q1 x0 x1 → Q2 x0 x1 → Q3 x0 x1) : ∀ (n m : Nat) (v0 : Nat) (v1 : Int32) (v2 : Int32) (v3 : Int32) (v4 : Int32) (v5 : Int32) (v6 : Int32) (v7 : Int32) (I : jI) (L : jL), f_X4_inherit_L30 Z Q1 n v0 v1 v2 v3 v4 v5 v6 v7 I L → f_X4_inherit_L30 Z Q2 m v0 v1 v2 v3 v4 v5 v6 v7 I L → f_X4_inherit_L30 Z Q3 n v0 v1 v2 v3 v4 v5 v6 v7 I L := by
  intro n
  induction n with
  | zero => intro m v0 v1 v2 v3 v4 v5 v6 v7 I L h1 h2; exact h1.elim
  | succ n ih =>
    intro m v0 v1 v2 v3 v4 v5 v6 v7 I L h1 h2
    cases m with
    | zero => exact h2.elim
    | succ m =>
      unfold f_X4_inherit_L30 at h1 h2 ⊢
      refine ⟨fun c => ?_, fun c => ?_⟩
      · have h1 := h1.1 c
        have h2 := h2.1 c
        exact hq _ _ h1 h2
      · have h1 := h1.2 c
        have h2 := h2.2 c
        refine ⟨fun c => ?_, fun c => ?_⟩
        · have h1 := h1.1 c
          have h2 := h2.1 c
          unfold f_X4_inherit_b73 at h1 h2 ⊢
          intro x1 ex1
          have h1 := h1 x1 ex1
          have h2 := h2 x1 ex1
          exact ih _ _ _ _ _ _ _ _ _ _ _ h1 h2
        · have h1 := h1.2 c
          have h2 := h2.2 c
          refine ⟨h1.1, ?_⟩
          have h1 := h1.2
          have h2 := h2.2
          refine ⟨fun c => ?_, fun c => ?_⟩
          · have h1 := h1.1 c
            have h2 := h2.1 c
            unfold f_X4_inherit_b66 at h1 h2 ⊢
            refine and_X4_move h1 h2 (fun I4 L5 h1 h2 => ?_)
            intro x8 ex8
            have h1 := h1 x8 ex8
            have h2 := h2 x8 ex8
            unfold f_X4_inherit_b73 at h1 h2 ⊢
            intro x1 ex1
            have h1 := h1 x1 ex1
            have h2 := h2 x1 ex1
            exact ih _ _ _ _ _ _ _ _ _ _ _ h1 h2
          · have h1 := h1.2 c
            have h2 := h2.2 c
            unfold f_X4_inherit_b66 at h1 h2 ⊢
            refine and_X4_move h1 h2 (fun I4 L5 h1 h2 => ?_)
            intro x8 ex8
            have h1 := h1 x8 ex8
            have h2 := h2 x8 ex8
            unfold f_X4_inherit_b73 at h1 h2 ⊢
            intro x1 ex1
            have h1 := h1 x1 ex1
            have h2 := h2 x1 ex1
            exact ih _ _ _ _ _ _ _ _ _ _ _ h1 h2
set_option maxHeartbeats 4000000 in
theorem and_X4_inherit {v0 : Nat} {v1 : Int32} {v2 : Int32} {v3 : Int32} {Z : jZ} {I : jI} {L : jL} {Q1 Q2 Q3 : jI → jL → Prop} (h1 : f_X4_inherit v0 v1 v2 v3 Z I L Q1) (h2 : f_X4_inherit v0 v1 v2 v3 Z I L Q2) (hq : ∀ (x0 : jI) (x1 : jL), Q1 x0 x1 → Q2 x0 x1 → Q3 x0 x1) : f_X4_inherit v0 v1 v2 v3 Z I L Q3 := by
  unfold f_X4_inherit at h1 h2 ⊢
  refine and_X4_shareOf h1 h2 (fun r19 I15 L16 h1 h2 => ?_)
  refine and_J6_bitCount_0f7a4 h1 h2 (fun r26 I22 L23 h1 h2 => ?_)
  refine ⟨fun c => ?_, fun c => ?_⟩
  · have h1 := h1.1 c
    have h2 := h2.1 c
    refine ⟨h1.1, ?_⟩
    have h1 := h1.2
    have h2 := h2.2
    intro x29 ex29
    have h1 := h1 x29 ex29
    have h2 := h2 x29 ex29
    obtain ⟨n1, h1⟩ := h1
    obtain ⟨n2, h2⟩ := h2
    exact ⟨n1, and_X4_inherit_L30  hq n1 n2 _ _ _ _ _ _ _ _ _ _ h1 h2⟩
  · have h1 := h1.2 c
    have h2 := h2.2 c
    exact hq _ _ h1 h2
set_option maxHeartbeats 4000000 in
theorem and_X11_dies_L58 {Z : jZ} {Q1 Q2 Q3 : Int32 → jI → jL → Prop} (hq : ∀ (x0 : Int32) (x1 : jI) (x2 : jL), Q1 x0 x1 x2 → Q2 x0 x1 x2 → Q3 x0 x1 x2) : ∀ (n m : Nat) (v0 : Nat) (v1 : Int32) (v2 : Int32) (v3 : Int32) (v4 : Int32) (I : jI) (L : jL), f_X11_dies_L58 Z Q1 n v0 v1 v2 v3 v4 I L → f_X11_dies_L58 Z Q2 m v0 v1 v2 v3 v4 I L → f_X11_dies_L58 Z Q3 n v0 v1 v2 v3 v4 I L := by
  intro n
  induction n with
  | zero => intro m v0 v1 v2 v3 v4 I L h1 h2; exact h1.elim
  | succ n ih =>
    intro m v0 v1 v2 v3 v4 I L h1 h2
    cases m with
    | zero => exact h2.elim
    | succ m =>
      unfold f_X11_dies_L58 at h1 h2 ⊢
      intro b1 eb1
      have h1 := h1 b1 eb1
      have h2 := h2 b1 eb1
      refine ⟨fun c => ?_, fun c => ?_⟩
      · have h1 := h1.1 c
        have h2 := h2.1 c
        exact hq _ _ _ h1 h2
      · have h1 := h1.2 c
        have h2 := h2.2 c
        intro b3 eb3
        have h1 := h1 b3 eb3
        have h2 := h2 b3 eb3
        intro b4 eb4
        have h1 := h1 b4 eb4
        have h2 := h2 b4 eb4
        refine and_X4_inherit h1 h2 (fun I7 L8 h1 h2 => ?_)
        intro x11 ex11
        have h1 := h1 x11 ex11
        have h2 := h2 x11 ex11
        exact ih _ _ _ _ _ _ _ _ h1 h2
set_option maxHeartbeats 4000000 in
theorem and_X11_dies {v0 : Nat} {v1 : Int32} {v2 : Int32} {Z : jZ} {I : jI} {L : jL} {Q1 Q2 Q3 : Int32 → jI → jL → Prop} (h1 : f_X11_dies v0 v1 v2 Z I L Q1) (h2 : f_X11_dies v0 v1 v2 Z I L Q2) (hq : ∀ (x0 : Int32) (x1 : jI) (x2 : jL), Q1 x0 x1 x2 → Q2 x0 x1 x2 → Q3 x0 x1 x2) : f_X11_dies v0 v1 v2 Z I L Q3 := by
  unfold f_X11_dies at h1 h2 ⊢
  refine and_X11_isFamily h1 h2 (fun r18 I14 L15 h1 h2 => ?_)
  refine ⟨fun c => ?_, fun c => ?_⟩
  · have h1 := h1.1 c
    have h2 := h2.1 c
    exact hq _ _ _ h1 h2
  · have h1 := h1.2 c
    have h2 := h2.2 c
    refine ⟨fun c => ?_, fun c => ?_⟩
    · have h1 := h1.1 c
      have h2 := h2.1 c
      exact hq _ _ _ h1 h2
    · have h1 := h1.2 c
      have h2 := h2.2 c
      refine ⟨fun c => ?_, fun c => ?_⟩
      · have h1 := h1.1 c
        have h2 := h2.1 c
        exact hq _ _ _ h1 h2
      · have h1 := h1.2 c
        have h2 := h2.2 c
        refine ⟨fun c => ?_, fun c => ?_⟩
        · have h1 := h1.1 c
          have h2 := h2.1 c
          intro b23 eb23
          have h1 := h1 b23 eb23
          have h2 := h2 b23 eb23
          intro b24 eb24
          have h1 := h1 b24 eb24
          have h2 := h2 b24 eb24
          refine and_X4_sumOf h1 h2 (fun r31 I27 L28 h1 h2 => ?_)
          refine ⟨fun c => ?_, fun c => ?_⟩
          · have h1 := h1.1 c
            have h2 := h2.1 c
            exact hq _ _ _ h1 h2
          · have h1 := h1.2 c
            have h2 := h2.2 c
            intro b33 eb33
            have h1 := h1 b33 eb33
            have h2 := h2 b33 eb33
            intro b34 eb34
            have h1 := h1 b34 eb34
            have h2 := h2 b34 eb34
            refine and_X4_remember h1 h2 (fun I37 L38 h1 h2 => ?_)
            obtain ⟨n1, h1⟩ := h1
            obtain ⟨n2, h2⟩ := h2
            exact ⟨n1, and_X11_dies_L58  hq n1 n2 _ _ _ _ _ _ _ h1 h2⟩
        · have h1 := h1.2 c
          have h2 := h2.2 c
          exact hq _ _ _ h1 h2
set_option maxHeartbeats 4000000 in
theorem and_X4_restore {v0 : Nat} {v1 : Nat} {Z : jZ} {I : jI} {L : jL} {Q1 Q2 Q3 : jI → jL → Prop} (h1 : f_X4_restore v0 v1 Z I L Q1) (h2 : f_X4_restore v0 v1 Z I L Q2) (hq : ∀ (x0 : jI) (x1 : jL), Q1 x0 x1 → Q2 x0 x1 → Q3 x0 x1) : f_X4_restore v0 v1 Z I L Q3 := by
  unfold f_X4_restore at h1 h2 ⊢
  intro b1 eb1
  have h1 := h1 b1 eb1
  have h2 := h2 b1 eb1
  refine ⟨h1.1, ?_⟩
  have h1 := h1.2
  have h2 := h2.2
  intro I3 eI3
  have h1 := h1 I3 eI3
  have h2 := h2 I3 eI3
  intro I4 eI4
  have h1 := h1 I4 eI4
  have h2 := h2 I4 eI4
  refine and_X4_findMains h1 h2 (fun I7 L8 h1 h2 => ?_)
  exact hq _ _ h1 h2
set_option maxHeartbeats 4000000 in
theorem and_X2_getStairs {v0 : Nat} {v1 : Nat} {Z : jZ} {I : jI} {L : jL} {Q1 Q2 Q3 : jI → jL → Prop} (h1 : f_X2_getStairs v0 v1 Z I L Q1) (h2 : f_X2_getStairs v0 v1 Z I L Q2) (hq : ∀ (x0 : jI) (x1 : jL), Q1 x0 x1 → Q2 x0 x1 → Q3 x0 x1) : f_X2_getStairs v0 v1 Z I L Q3 := by
  unfold f_X2_getStairs at h1 h2 ⊢
  intro b1 eb1
  have h1 := h1 b1 eb1
  have h2 := h2 b1 eb1
  intro b2 eb2
  have h1 := h1 b2 eb2
  have h2 := h2 b2 eb2
  refine ⟨h1.1, ?_⟩
  have h1 := h1.2
  have h2 := h2.2
  intro I4 eI4
  have h1 := h1 I4 eI4
  have h2 := h2 I4 eI4
  intro b5 eb5
  have h1 := h1 b5 eb5
  have h2 := h2 b5 eb5
  intro b6 eb6
  have h1 := h1 b6 eb6
  have h2 := h2 b6 eb6
  refine ⟨h1.1, ?_⟩
  have h1 := h1.2
  have h2 := h2.2
  intro I8 eI8
  have h1 := h1 I8 eI8
  have h2 := h2 I8 eI8
  intro b9 eb9
  have h1 := h1 b9 eb9
  have h2 := h2 b9 eb9
  intro b10 eb10
  have h1 := h1 b10 eb10
  have h2 := h2 b10 eb10
  refine and_X4_restore h1 h2 (fun I13 L14 h1 h2 => ?_)
  exact hq _ _ h1 h2
set_option maxHeartbeats 4000000 in
theorem and_X11_find {v0 : Nat} {v1 : Int32} {Z : jZ} {I : jI} {L : jL} {Q1 Q2 Q3 : Option Nat → jI → jL → Prop} (h1 : f_X11_find v0 v1 Z I L Q1) (h2 : f_X11_find v0 v1 Z I L Q2) (hq : ∀ (x0 : Option Nat) (x1 : jI) (x2 : jL), Q1 x0 x1 x2 → Q2 x0 x1 x2 → Q3 x0 x1 x2) : f_X11_find v0 v1 Z I L Q3 := by
  unfold f_X11_find at h1 h2 ⊢
  refine ⟨fun c => ?_, fun c => ?_⟩
  · have h1 := h1.1 c
    have h2 := h2.1 c
    unfold f_X11_find_b30 at h1 h2 ⊢
    exact hq _ _ _ h1 h2
  · have h1 := h1.2 c
    have h2 := h2.2 c
    refine ⟨fun c => ?_, fun c => ?_⟩
    · have h1 := h1.1 c
      have h2 := h2.1 c
      unfold f_X11_find_b30 at h1 h2 ⊢
      exact hq _ _ _ h1 h2
    · have h1 := h1.2 c
      have h2 := h2.2 c
      intro b3 eb3
      have h1 := h1 b3 eb3
      have h2 := h2 b3 eb3
      refine ⟨fun c => ?_, fun c => ?_⟩
      · have h1 := h1.1 c
        have h2 := h2.1 c
        unfold f_X11_find_b30 at h1 h2 ⊢
        exact hq _ _ _ h1 h2
      · have h1 := h1.2 c
        have h2 := h2.2 c
        intro b5 eb5
        have h1 := h1 b5 eb5
        have h2 := h2 b5 eb5
        refine ⟨h1.1, ?_⟩
        have h1 := h1.2
        have h2 := h2.2
        refine ⟨fun c => ?_, fun b7 c => ?_⟩
        · have h1 := h1.1 c
          have h2 := h2.1 c
          exact hq _ _ _ h1 h2
        · have h1 := h1.2 b7 c
          have h2 := h2.2 b7 c
          exact hq _ _ _ h1 h2
set_option maxHeartbeats 4000000 in
theorem and_X2_getPilgrim {v0 : Nat} {v1 : Int32} {v2 : Nat} {Z : jZ} {I : jI} {L : jL} {Q1 Q2 Q3 : jI → jL → Prop} (h1 : f_X2_getPilgrim v0 v1 v2 Z I L Q1) (h2 : f_X2_getPilgrim v0 v1 v2 Z I L Q2) (hq : ∀ (x0 : jI) (x1 : jL), Q1 x0 x1 → Q2 x0 x1 → Q3 x0 x1) : f_X2_getPilgrim v0 v1 v2 Z I L Q3 := by
  unfold f_X2_getPilgrim at h1 h2 ⊢
  refine ⟨fun c => ?_, fun c => ?_⟩
  · have h1 := h1.1 c
    have h2 := h2.1 c
    exact hq _ _ h1 h2
  · have h1 := h1.2 c
    have h2 := h2.2 c
    refine ⟨fun c => ?_, fun c => ?_⟩
    · have h1 := h1.1 c
      have h2 := h2.1 c
      exact hq _ _ h1 h2
    · have h1 := h1.2 c
      have h2 := h2.2 c
      intro b3 eb3
      have h1 := h1 b3 eb3
      have h2 := h2 b3 eb3
      refine ⟨h1.1, ?_⟩
      have h1 := h1.2
      have h2 := h2.2
      intro I5 eI5
      have h1 := h1 I5 eI5
      have h2 := h2 I5 eI5
      intro b6 eb6
      have h1 := h1 b6 eb6
      have h2 := h2 b6 eb6
      refine ⟨h1.1, ?_⟩
      have h1 := h1.2
      have h2 := h2.2
      intro I8 eI8
      have h1 := h1 I8 eI8
      have h2 := h2 I8 eI8
      intro b9 eb9
      have h1 := h1 b9 eb9
      have h2 := h2 b9 eb9
      refine ⟨h1.1, ?_⟩
      have h1 := h1.2
      have h2 := h2.2
      intro I11 eI11
      have h1 := h1 I11 eI11
      have h2 := h2 I11 eI11
      exact hq _ _ h1 h2
set_option maxHeartbeats 4000000 in
theorem and_X11_again_L59 {Z : jZ} {Q1 Q2 Q3 : Int32 → jI → jL → Prop} (hq : ∀ (x0 : Int32) (x1 : jI) (x2 : jL), Q1 x0 x1 x2 → Q2 x0 x1 x2 → Q3 x0 x1 x2) : ∀ (n m : Nat) (v0 : Nat) (v2 : Nat) (v3 : Int32) (I : jI) (L : jL), f_X11_again_L59 Z Q1 n v0 v2 v3 I L → f_X11_again_L59 Z Q2 m v0 v2 v3 I L → f_X11_again_L59 Z Q3 n v0 v2 v3 I L := by
  intro n
  induction n with
  | zero => intro m v0 v2 v3 I L h1 h2; exact h1.elim
  | succ n ih =>
    intro m v0 v2 v3 I L h1 h2
    cases m with
    | zero => exact h2.elim
    | succ m =>
      unfold f_X11_again_L59 at h1 h2 ⊢
      refine ⟨fun c => ?_, fun c => ?_⟩
      · have h1 := h1.1 c
        have h2 := h2.1 c
        exact hq _ _ _ h1 h2
      · have h1 := h1.2 c
        have h2 := h2.2 c
        refine ⟨fun c => ?_, fun c => ?_⟩
        · have h1 := h1.1 c
          have h2 := h2.1 c
          exact hq _ _ _ h1 h2
        · have h1 := h1.2 c
          have h2 := h2.2 c
          refine and_X11_find h1 h2 (fun r10 I6 L7 h1 h2 => ?_)
          refine ⟨fun c => ?_, fun b11 c => ?_⟩
          · have h1 := h1.1 c
            have h2 := h2.1 c
            unfold f_X11_again_b94 at h1 h2 ⊢
            intro x1 ex1
            have h1 := h1 x1 ex1
            have h2 := h2 x1 ex1
            exact ih _ _ _ _ _ _ h1 h2
          · have h1 := h1.2 b11 c
            have h2 := h2.2 b11 c
            refine and_X2_getPilgrim h1 h2 (fun I15 L16 h1 h2 => ?_)
            unfold f_X11_again_b94 at h1 h2 ⊢
            intro x1 ex1
            have h1 := h1 x1 ex1
            have h2 := h2 x1 ex1
            exact ih _ _ _ _ _ _ h1 h2
set_option maxHeartbeats 4000000 in
theorem and_X11_again {v0 : Nat} {v1 : Int32} {Z : jZ} {I : jI} {L : jL} {Q1 Q2 Q3 : Int32 → jI → jL → Prop} (h1 : f_X11_again v0 v1 Z I L Q1) (h2 : f_X11_again v0 v1 Z I L Q2) (hq : ∀ (x0 : Int32) (x1 : jI) (x2 : jL), Q1 x0 x1 x2 → Q2 x0 x1 x2 → Q3 x0 x1 x2) : f_X11_again v0 v1 Z I L Q3 := by
  unfold f_X11_again at h1 h2 ⊢
  refine ⟨fun c => ?_, fun c => ?_⟩
  · have h1 := h1.1 c
    have h2 := h2.1 c
    exact hq _ _ _ h1 h2
  · have h1 := h1.2 c
    have h2 := h2.2 c
    intro b20 eb20
    have h1 := h1 b20 eb20
    have h2 := h2 b20 eb20
    refine ⟨fun c => ?_, fun c => ?_⟩
    · have h1 := h1.1 c
      have h2 := h2.1 c
      exact hq _ _ _ h1 h2
    · have h1 := h1.2 c
      have h2 := h2.2 c
      intro b22 eb22
      have h1 := h1 b22 eb22
      have h2 := h2 b22 eb22
      refine ⟨h1.1, ?_⟩
      have h1 := h1.2
      have h2 := h2.2
      intro b24 eb24
      have h1 := h1 b24 eb24
      have h2 := h2 b24 eb24
      refine ⟨fun c => ?_, fun c => ?_⟩
      · have h1 := h1.1 c
        have h2 := h2.1 c
        intro b26 eb26
        have h1 := h1 b26 eb26
        have h2 := h2 b26 eb26
        refine ⟨h1.1, ?_⟩
        have h1 := h1.2
        have h2 := h2.2
        intro b28 eb28
        have h1 := h1 b28 eb28
        have h2 := h2 b28 eb28
        intro b29 eb29
        have h1 := h1 b29 eb29
        have h2 := h2 b29 eb29
        refine and_X2_getStairs h1 h2 (fun I32 L33 h1 h2 => ?_)
        intro b36 eb36
        have h1 := h1 b36 eb36
        have h2 := h2 b36 eb36
        intro b37 eb37
        have h1 := h1 b37 eb37
        have h2 := h2 b37 eb37
        refine ⟨h1.1, ?_⟩
        have h1 := h1.2
        have h2 := h2.2
        intro I39 eI39
        have h1 := h1 I39 eI39
        have h2 := h2 I39 eI39
        obtain ⟨n1, h1⟩ := h1
        obtain ⟨n2, h2⟩ := h2
        exact ⟨n1, and_X11_again_L59  hq n1 n2 _ _ _ _ _ h1 h2⟩
      · have h1 := h1.2 c
        have h2 := h2.2 c
        exact hq _ _ _ h1 h2
set_option maxHeartbeats 4000000 in
theorem and_X9_fail {v0 : Nat} {v1 : Int32} {Z : jZ} {I : jI} {L : jL} {Q1 Q2 Q3 : Int32 → jI → jL → Prop} (h1 : f_X9_fail v0 v1 Z I L Q1) (h2 : f_X9_fail v0 v1 Z I L Q2) (hq : ∀ (x0 : Int32) (x1 : jI) (x2 : jL), Q1 x0 x1 x2 → Q2 x0 x1 x2 → Q3 x0 x1 x2) : f_X9_fail v0 v1 Z I L Q3 := by
  unfold f_X9_fail at h1 h2 ⊢
  intro I1 eI1
  have h1 := h1 I1 eI1
  have h2 := h2 I1 eI1
  exact hq _ _ _ h1 h2
set_option maxHeartbeats 4000000 in
theorem and_X10_signAt {v0 : Nat} {v1 : Int32} {Z : jZ} {I : jI} {L : jL} {Q1 Q2 Q3 : Int32 → jI → jL → Prop} (h1 : f_X10_signAt v0 v1 Z I L Q1) (h2 : f_X10_signAt v0 v1 Z I L Q2) (hq : ∀ (x0 : Int32) (x1 : jI) (x2 : jL), Q1 x0 x1 x2 → Q2 x0 x1 x2 → Q3 x0 x1 x2) : f_X10_signAt v0 v1 Z I L Q3 := by
  unfold f_X10_signAt at h1 h2 ⊢
  refine ⟨fun c => ?_, fun c => ?_⟩
  · have h1 := h1.1 c
    have h2 := h2.1 c
    exact hq _ _ _ h1 h2
  · have h1 := h1.2 c
    have h2 := h2.2 c
    refine ⟨fun c => ?_, fun c => ?_⟩
    · have h1 := h1.1 c
      have h2 := h2.1 c
      exact hq _ _ _ h1 h2
    · have h1 := h1.2 c
      have h2 := h2.2 c
      refine ⟨fun c => ?_, fun c => ?_⟩
      · have h1 := h1.1 c
        have h2 := h2.1 c
        exact hq _ _ _ h1 h2
      · have h1 := h1.2 c
        have h2 := h2.2 c
        intro b4 eb4
        have h1 := h1 b4 eb4
        have h2 := h2 b4 eb4
        refine ⟨h1.1, ?_⟩
        have h1 := h1.2
        have h2 := h2.2
        exact hq _ _ _ h1 h2
set_option maxHeartbeats 4000000 in
theorem and_X9_look {v0 : Nat} {v1 : Nat} {Z : jZ} {I : jI} {L : jL} {Q1 Q2 Q3 : Int32 → jI → jL → Prop} (h1 : f_X9_look v0 v1 Z I L Q1) (h2 : f_X9_look v0 v1 Z I L Q2) (hq : ∀ (x0 : Int32) (x1 : jI) (x2 : jL), Q1 x0 x1 x2 → Q2 x0 x1 x2 → Q3 x0 x1 x2) : f_X9_look v0 v1 Z I L Q3 := by
  unfold f_X9_look at h1 h2 ⊢
  refine ⟨fun c => ?_, fun c => ?_⟩
  · have h1 := h1.1 c
    have h2 := h2.1 c
    exact hq _ _ _ h1 h2
  · have h1 := h1.2 c
    have h2 := h2.2 c
    refine and_X10_signAt h1 h2 (fun r8 I4 L5 h1 h2 => ?_)
    exact hq _ _ _ h1 h2
set_option maxHeartbeats 4000000 in
theorem and_X10_isDigit {v0 : Int32} {Z : jZ} {I : jI} {L : jL} {Q1 Q2 Q3 : Int32 → jI → jL → Prop} (h1 : f_X10_isDigit v0 Z I L Q1) (h2 : f_X10_isDigit v0 Z I L Q2) (hq : ∀ (x0 : Int32) (x1 : jI) (x2 : jL), Q1 x0 x1 x2 → Q2 x0 x1 x2 → Q3 x0 x1 x2) : f_X10_isDigit v0 Z I L Q3 := by
  unfold f_X10_isDigit at h1 h2 ⊢
  refine ⟨fun c => ?_, fun c => ?_⟩
  · have h1 := h1.1 c
    have h2 := h2.1 c
    exact hq _ _ _ h1 h2
  · have h1 := h1.2 c
    have h2 := h2.2 c
    refine ⟨fun c => ?_, fun c => ?_⟩
    · have h1 := h1.1 c
      have h2 := h2.1 c
      exact hq _ _ _ h1 h2
    · have h1 := h1.2 c
      have h2 := h2.2 c
      exact hq _ _ _ h1 h2
set_option maxHeartbeats 4000000 in
theorem and_X9_readNumber_L6 {Z : jZ} {Q1 Q2 Q3 : Int32 → jI → jL → Prop} (hq : ∀ (x0 : Int32) (x1 : jI) (x2 : jL), Q1 x0 x1 x2 → Q2 x0 x1 x2 → Q3 x0 x1 x2) : ∀ (n m : Nat) (v0 : Nat) (v1 : Nat) (v2 : Int32) (v3 : Int32) (v4 : Int32) (v5 : Int32) (I : jI) (L : jL), f_X9_readNumber_L6 Z Q1 n v0 v1 v2 v3 v4 v5 I L → f_X9_readNumber_L6 Z Q2 m v0 v1 v2 v3 v4 v5 I L → f_X9_readNumber_L6 Z Q3 n v0 v1 v2 v3 v4 v5 I L := by
  intro n
  induction n with
  | zero => intro m v0 v1 v2 v3 v4 v5 I L h1 h2; exact h1.elim
  | succ n ih =>
    intro m v0 v1 v2 v3 v4 v5 I L h1 h2
    cases m with
    | zero => exact h2.elim
    | succ m =>
      unfold f_X9_readNumber_L6 at h1 h2 ⊢
      refine ⟨fun c => ?_, fun c => ?_⟩
      · have h1 := h1.1 c
        have h2 := h2.1 c
        unfold f_X9_readNumber_b55 at h1 h2 ⊢
        refine ⟨fun c => ?_, fun c => ?_⟩
        · have h1 := h1.1 c
          have h2 := h2.1 c
          unfold f_X9_readNumber_b76 at h1 h2 ⊢
          unfold f_X9_readNumber_b77 at h1 h2 ⊢
          refine ⟨fun c => ?_, fun c => ?_⟩
          · have h1 := h1.1 c
            have h2 := h2.1 c
            unfold f_X9_readNumber_b107 at h1 h2 ⊢
            refine ⟨fun c => ?_, fun c => ?_⟩
            · have h1 := h1.1 c
              have h2 := h2.1 c
              exact hq _ _ _ h1 h2
            · have h1 := h1.2 c
              have h2 := h2.2 c
              exact hq _ _ _ h1 h2
          · have h1 := h1.2 c
            have h2 := h2.2 c
            refine ⟨fun c => ?_, fun c => ?_⟩
            · have h1 := h1.1 c
              have h2 := h2.1 c
              unfold f_X9_readNumber_b103 at h1 h2 ⊢
              refine and_X9_fail h1 h2 (fun r8 I4 L5 h1 h2 => ?_)
              unfold f_X9_readNumber_b107 at h1 h2 ⊢
              refine ⟨fun c => ?_, fun c => ?_⟩
              · have h1 := h1.1 c
                have h2 := h2.1 c
                exact hq _ _ _ h1 h2
              · have h1 := h1.2 c
                have h2 := h2.2 c
                exact hq _ _ _ h1 h2
            · have h1 := h1.2 c
              have h2 := h2.2 c
              unfold f_X9_readNumber_b103 at h1 h2 ⊢
              refine and_X9_fail h1 h2 (fun r8 I4 L5 h1 h2 => ?_)
              unfold f_X9_readNumber_b107 at h1 h2 ⊢
              refine ⟨fun c => ?_, fun c => ?_⟩
              · have h1 := h1.1 c
                have h2 := h2.1 c
                exact hq _ _ _ h1 h2
              · have h1 := h1.2 c
                have h2 := h2.2 c
                exact hq _ _ _ h1 h2
        · have h1 := h1.2 c
          have h2 := h2.2 c
          refine ⟨fun c => ?_, fun c => ?_⟩
          · have h1 := h1.1 c
            have h2 := h2.1 c
            unfold f_X9_readNumber_b76 at h1 h2 ⊢
            unfold f_X9_readNumber_b77 at h1 h2 ⊢
            refine ⟨fun c => ?_, fun c => ?_⟩
            · have h1 := h1.1 c
              have h2 := h2.1 c
              unfold f_X9_readNumber_b107 at h1 h2 ⊢
              refine ⟨fun c => ?_, fun c => ?_⟩
              · have h1 := h1.1 c
                have h2 := h2.1 c
                exact hq _ _ _ h1 h2
              · have h1 := h1.2 c
                have h2 := h2.2 c
                exact hq _ _ _ h1 h2
            · have h1 := h1.2 c
              have h2 := h2.2 c
              refine ⟨fun c => ?_, fun c => ?_⟩
              · have h1 := h1.1 c
                have h2 := h2.1 c
                unfold f_X9_readNumber_b103 at h1 h2 ⊢
                refine and_X9_fail h1 h2 (fun r8 I4 L5 h1 h2 => ?_)
                unfold f_X9_readNumber_b107 at h1 h2 ⊢
                refine ⟨fun c => ?_, fun c => ?_⟩
                · have h1 := h1.1 c
                  have h2 := h2.1 c
                  exact hq _ _ _ h1 h2
                · have h1 := h1.2 c
                  have h2 := h2.2 c
                  exact hq _ _ _ h1 h2
              · have h1 := h1.2 c
                have h2 := h2.2 c
                unfold f_X9_readNumber_b103 at h1 h2 ⊢
                refine and_X9_fail h1 h2 (fun r8 I4 L5 h1 h2 => ?_)
                unfold f_X9_readNumber_b107 at h1 h2 ⊢
                refine ⟨fun c => ?_, fun c => ?_⟩
                · have h1 := h1.1 c
                  have h2 := h2.1 c
                  exact hq _ _ _ h1 h2
                · have h1 := h1.2 c
                  have h2 := h2.2 c
                  exact hq _ _ _ h1 h2
          · have h1 := h1.2 c
            have h2 := h2.2 c
            refine ⟨fun c => ?_, fun c => ?_⟩
            · have h1 := h1.1 c
              have h2 := h2.1 c
              unfold f_X9_readNumber_b76 at h1 h2 ⊢
              unfold f_X9_readNumber_b77 at h1 h2 ⊢
              refine ⟨fun c => ?_, fun c => ?_⟩
              · have h1 := h1.1 c
                have h2 := h2.1 c
                unfold f_X9_readNumber_b107 at h1 h2 ⊢
                refine ⟨fun c => ?_, fun c => ?_⟩
                · have h1 := h1.1 c
                  have h2 := h2.1 c
                  exact hq _ _ _ h1 h2
                · have h1 := h1.2 c
                  have h2 := h2.2 c
                  exact hq _ _ _ h1 h2
              · have h1 := h1.2 c
                have h2 := h2.2 c
                refine ⟨fun c => ?_, fun c => ?_⟩
                · have h1 := h1.1 c
                  have h2 := h2.1 c
                  unfold f_X9_readNumber_b103 at h1 h2 ⊢
                  refine and_X9_fail h1 h2 (fun r8 I4 L5 h1 h2 => ?_)
                  unfold f_X9_readNumber_b107 at h1 h2 ⊢
                  refine ⟨fun c => ?_, fun c => ?_⟩
                  · have h1 := h1.1 c
                    have h2 := h2.1 c
                    exact hq _ _ _ h1 h2
                  · have h1 := h1.2 c
                    have h2 := h2.2 c
                    exact hq _ _ _ h1 h2
                · have h1 := h1.2 c
                  have h2 := h2.2 c
                  unfold f_X9_readNumber_b103 at h1 h2 ⊢
                  refine and_X9_fail h1 h2 (fun r8 I4 L5 h1 h2 => ?_)
                  unfold f_X9_readNumber_b107 at h1 h2 ⊢
                  refine ⟨fun c => ?_, fun c => ?_⟩
                  · have h1 := h1.1 c
                    have h2 := h2.1 c
                    exact hq _ _ _ h1 h2
                  · have h1 := h1.2 c
                    have h2 := h2.2 c
                    exact hq _ _ _ h1 h2
            · have h1 := h1.2 c
              have h2 := h2.2 c
              unfold f_X9_readNumber_b77 at h1 h2 ⊢
              refine ⟨fun c => ?_, fun c => ?_⟩
              · have h1 := h1.1 c
                have h2 := h2.1 c
                unfold f_X9_readNumber_b107 at h1 h2 ⊢
                refine ⟨fun c => ?_, fun c => ?_⟩
                · have h1 := h1.1 c
                  have h2 := h2.1 c
                  exact hq _ _ _ h1 h2
                · have h1 := h1.2 c
                  have h2 := h2.2 c
                  exact hq _ _ _ h1 h2
              · have h1 := h1.2 c
                have h2 := h2.2 c
                refine ⟨fun c => ?_, fun c => ?_⟩
                · have h1 := h1.1 c
                  have h2 := h2.1 c
                  unfold f_X9_readNumber_b103 at h1 h2 ⊢
                  refine and_X9_fail h1 h2 (fun r8 I4 L5 h1 h2 => ?_)
                  unfold f_X9_readNumber_b107 at h1 h2 ⊢
                  refine ⟨fun c => ?_, fun c => ?_⟩
                  · have h1 := h1.1 c
                    have h2 := h2.1 c
                    exact hq _ _ _ h1 h2
                  · have h1 := h1.2 c
                    have h2 := h2.2 c
                    exact hq _ _ _ h1 h2
                · have h1 := h1.2 c
                  have h2 := h2.2 c
                  unfold f_X9_readNumber_b103 at h1 h2 ⊢
                  refine and_X9_fail h1 h2 (fun r8 I4 L5 h1 h2 => ?_)
                  unfold f_X9_readNumber_b107 at h1 h2 ⊢
                  refine ⟨fun c => ?_, fun c => ?_⟩
                  · have h1 := h1.1 c
                    have h2 := h2.1 c
                    exact hq _ _ _ h1 h2
                  · have h1 := h1.2 c
                    have h2 := h2.2 c
                    exact hq _ _ _ h1 h2
      · have h1 := h1.2 c
        have h2 := h2.2 c
        refine and_X9_look h1 h2 (fun r21 I17 L18 h1 h2 => ?_)
        refine and_X10_isDigit h1 h2 (fun r28 I24 L25 h1 h2 => ?_)
        refine ⟨fun c => ?_, fun c => ?_⟩
        · have h1 := h1.1 c
          have h2 := h2.1 c
          unfold f_X9_readNumber_b55 at h1 h2 ⊢
          refine ⟨fun c => ?_, fun c => ?_⟩
          · have h1 := h1.1 c
            have h2 := h2.1 c
            unfold f_X9_readNumber_b76 at h1 h2 ⊢
            unfold f_X9_readNumber_b77 at h1 h2 ⊢
            refine ⟨fun c => ?_, fun c => ?_⟩
            · have h1 := h1.1 c
              have h2 := h2.1 c
              unfold f_X9_readNumber_b107 at h1 h2 ⊢
              refine ⟨fun c => ?_, fun c => ?_⟩
              · have h1 := h1.1 c
                have h2 := h2.1 c
                exact hq _ _ _ h1 h2
              · have h1 := h1.2 c
                have h2 := h2.2 c
                exact hq _ _ _ h1 h2
            · have h1 := h1.2 c
              have h2 := h2.2 c
              refine ⟨fun c => ?_, fun c => ?_⟩
              · have h1 := h1.1 c
                have h2 := h2.1 c
                unfold f_X9_readNumber_b103 at h1 h2 ⊢
                refine and_X9_fail h1 h2 (fun r8 I4 L5 h1 h2 => ?_)
                unfold f_X9_readNumber_b107 at h1 h2 ⊢
                refine ⟨fun c => ?_, fun c => ?_⟩
                · have h1 := h1.1 c
                  have h2 := h2.1 c
                  exact hq _ _ _ h1 h2
                · have h1 := h1.2 c
                  have h2 := h2.2 c
                  exact hq _ _ _ h1 h2
              · have h1 := h1.2 c
                have h2 := h2.2 c
                unfold f_X9_readNumber_b103 at h1 h2 ⊢
                refine and_X9_fail h1 h2 (fun r8 I4 L5 h1 h2 => ?_)
                unfold f_X9_readNumber_b107 at h1 h2 ⊢
                refine ⟨fun c => ?_, fun c => ?_⟩
                · have h1 := h1.1 c
                  have h2 := h2.1 c
                  exact hq _ _ _ h1 h2
                · have h1 := h1.2 c
                  have h2 := h2.2 c
                  exact hq _ _ _ h1 h2
          · have h1 := h1.2 c
            have h2 := h2.2 c
            refine ⟨fun c => ?_, fun c => ?_⟩
            · have h1 := h1.1 c
              have h2 := h2.1 c
              unfold f_X9_readNumber_b76 at h1 h2 ⊢
              unfold f_X9_readNumber_b77 at h1 h2 ⊢
              refine ⟨fun c => ?_, fun c => ?_⟩
              · have h1 := h1.1 c
                have h2 := h2.1 c
                unfold f_X9_readNumber_b107 at h1 h2 ⊢
                refine ⟨fun c => ?_, fun c => ?_⟩
                · have h1 := h1.1 c
                  have h2 := h2.1 c
                  exact hq _ _ _ h1 h2
                · have h1 := h1.2 c
                  have h2 := h2.2 c
                  exact hq _ _ _ h1 h2
              · have h1 := h1.2 c
                have h2 := h2.2 c
                refine ⟨fun c => ?_, fun c => ?_⟩
                · have h1 := h1.1 c
                  have h2 := h2.1 c
                  unfold f_X9_readNumber_b103 at h1 h2 ⊢
                  refine and_X9_fail h1 h2 (fun r8 I4 L5 h1 h2 => ?_)
                  unfold f_X9_readNumber_b107 at h1 h2 ⊢
                  refine ⟨fun c => ?_, fun c => ?_⟩
                  · have h1 := h1.1 c
                    have h2 := h2.1 c
                    exact hq _ _ _ h1 h2
                  · have h1 := h1.2 c
                    have h2 := h2.2 c
                    exact hq _ _ _ h1 h2
                · have h1 := h1.2 c
                  have h2 := h2.2 c
                  unfold f_X9_readNumber_b103 at h1 h2 ⊢
                  refine and_X9_fail h1 h2 (fun r8 I4 L5 h1 h2 => ?_)
                  unfold f_X9_readNumber_b107 at h1 h2 ⊢
                  refine ⟨fun c => ?_, fun c => ?_⟩
                  · have h1 := h1.1 c
                    have h2 := h2.1 c
                    exact hq _ _ _ h1 h2
                  · have h1 := h1.2 c
                    have h2 := h2.2 c
                    exact hq _ _ _ h1 h2
            · have h1 := h1.2 c
              have h2 := h2.2 c
              refine ⟨fun c => ?_, fun c => ?_⟩
              · have h1 := h1.1 c
                have h2 := h2.1 c
                unfold f_X9_readNumber_b76 at h1 h2 ⊢
                unfold f_X9_readNumber_b77 at h1 h2 ⊢
                refine ⟨fun c => ?_, fun c => ?_⟩
                · have h1 := h1.1 c
                  have h2 := h2.1 c
                  unfold f_X9_readNumber_b107 at h1 h2 ⊢
                  refine ⟨fun c => ?_, fun c => ?_⟩
                  · have h1 := h1.1 c
                    have h2 := h2.1 c
                    exact hq _ _ _ h1 h2
                  · have h1 := h1.2 c
                    have h2 := h2.2 c
                    exact hq _ _ _ h1 h2
                · have h1 := h1.2 c
                  have h2 := h2.2 c
                  refine ⟨fun c => ?_, fun c => ?_⟩
                  · have h1 := h1.1 c
                    have h2 := h2.1 c
                    unfold f_X9_readNumber_b103 at h1 h2 ⊢
                    refine and_X9_fail h1 h2 (fun r8 I4 L5 h1 h2 => ?_)
                    unfold f_X9_readNumber_b107 at h1 h2 ⊢
                    refine ⟨fun c => ?_, fun c => ?_⟩
                    · have h1 := h1.1 c
                      have h2 := h2.1 c
                      exact hq _ _ _ h1 h2
                    · have h1 := h1.2 c
                      have h2 := h2.2 c
                      exact hq _ _ _ h1 h2
                  · have h1 := h1.2 c
                    have h2 := h2.2 c
                    unfold f_X9_readNumber_b103 at h1 h2 ⊢
                    refine and_X9_fail h1 h2 (fun r8 I4 L5 h1 h2 => ?_)
                    unfold f_X9_readNumber_b107 at h1 h2 ⊢
                    refine ⟨fun c => ?_, fun c => ?_⟩
                    · have h1 := h1.1 c
                      have h2 := h2.1 c
                      exact hq _ _ _ h1 h2
                    · have h1 := h1.2 c
                      have h2 := h2.2 c
                      exact hq _ _ _ h1 h2
              · have h1 := h1.2 c
                have h2 := h2.2 c
                unfold f_X9_readNumber_b77 at h1 h2 ⊢
                refine ⟨fun c => ?_, fun c => ?_⟩
                · have h1 := h1.1 c
                  have h2 := h2.1 c
                  unfold f_X9_readNumber_b107 at h1 h2 ⊢
                  refine ⟨fun c => ?_, fun c => ?_⟩
                  · have h1 := h1.1 c
                    have h2 := h2.1 c
                    exact hq _ _ _ h1 h2
                  · have h1 := h1.2 c
                    have h2 := h2.2 c
                    exact hq _ _ _ h1 h2
                · have h1 := h1.2 c
                  have h2 := h2.2 c
                  refine ⟨fun c => ?_, fun c => ?_⟩
                  · have h1 := h1.1 c
                    have h2 := h2.1 c
                    unfold f_X9_readNumber_b103 at h1 h2 ⊢
                    refine and_X9_fail h1 h2 (fun r8 I4 L5 h1 h2 => ?_)
                    unfold f_X9_readNumber_b107 at h1 h2 ⊢
                    refine ⟨fun c => ?_, fun c => ?_⟩
                    · have h1 := h1.1 c
                      have h2 := h2.1 c
                      exact hq _ _ _ h1 h2
                    · have h1 := h1.2 c
                      have h2 := h2.2 c
                      exact hq _ _ _ h1 h2
                  · have h1 := h1.2 c
                    have h2 := h2.2 c
                    unfold f_X9_readNumber_b103 at h1 h2 ⊢
                    refine and_X9_fail h1 h2 (fun r8 I4 L5 h1 h2 => ?_)
                    unfold f_X9_readNumber_b107 at h1 h2 ⊢
                    refine ⟨fun c => ?_, fun c => ?_⟩
                    · have h1 := h1.1 c
                      have h2 := h2.1 c
                      exact hq _ _ _ h1 h2
                    · have h1 := h1.2 c
                      have h2 := h2.2 c
                      exact hq _ _ _ h1 h2
        · have h1 := h1.2 c
          have h2 := h2.2 c
          refine and_X9_look h1 h2 (fun r36 I32 L33 h1 h2 => ?_)
          intro x37 ex37
          have h1 := h1 x37 ex37
          have h2 := h2 x37 ex37
          intro I38 eI38
          have h1 := h1 I38 eI38
          have h2 := h2 I38 eI38
          intro x39 ex39
          have h1 := h1 x39 ex39
          have h2 := h2 x39 ex39
          exact ih _ _ _ _ _ _ _ _ _ h1 h2
set_option maxHeartbeats 4000000 in
theorem and_X9_readNumber {v0 : Nat} {v1 : Nat} {v2 : Int32} {v3 : Int32} {Z : jZ} {I : jI} {L : jL} {Q1 Q2 Q3 : Int32 → jI → jL → Prop} (h1 : f_X9_readNumber v0 v1 v2 v3 Z I L Q1) (h2 : f_X9_readNumber v0 v1 v2 v3 Z I L Q2) (hq : ∀ (x0 : Int32) (x1 : jI) (x2 : jL), Q1 x0 x1 x2 → Q2 x0 x1 x2 → Q3 x0 x1 x2) : f_X9_readNumber v0 v1 v2 v3 Z I L Q3 := by
  unfold f_X9_readNumber at h1 h2 ⊢
  obtain ⟨n1, h1⟩ := h1
  obtain ⟨n2, h2⟩ := h2
  exact ⟨n1, and_X9_readNumber_L6  hq n1 n2 _ _ _ _ _ _ _ _ h1 h2⟩
set_option maxHeartbeats 4000000 in
theorem and_X9_readMark {v0 : Nat} {v1 : Nat} {v2 : Int32} {Z : jZ} {I : jI} {L : jL} {Q1 Q2 Q3 : Int32 → jI → jL → Prop} (h1 : f_X9_readMark v0 v1 v2 Z I L Q1) (h2 : f_X9_readMark v0 v1 v2 Z I L Q2) (hq : ∀ (x0 : Int32) (x1 : jI) (x2 : jL), Q1 x0 x1 x2 → Q2 x0 x1 x2 → Q3 x0 x1 x2) : f_X9_readMark v0 v1 v2 Z I L Q3 := by
  unfold f_X9_readMark at h1 h2 ⊢
  refine and_X9_look h1 h2 (fun r7 I3 L4 h1 h2 => ?_)
  refine ⟨fun c => ?_, fun c => ?_⟩
  · have h1 := h1.1 c
    have h2 := h2.1 c
    intro I9 eI9
    have h1 := h1 I9 eI9
    have h2 := h2 I9 eI9
    exact hq _ _ _ h1 h2
  · have h1 := h1.2 c
    have h2 := h2.2 c
    refine and_X9_fail h1 h2 (fun r16 I12 L13 h1 h2 => ?_)
    exact hq _ _ _ h1 h2
set_option maxHeartbeats 4000000 in
theorem and_X9_readFamily {v0 : Nat} {v1 : Nat} {Z : jZ} {I : jI} {L : jL} {Q1 Q2 Q3 : Int32 → jI → jL → Prop} (h1 : f_X9_readFamily v0 v1 Z I L Q1) (h2 : f_X9_readFamily v0 v1 Z I L Q2) (hq : ∀ (x0 : Int32) (x1 : jI) (x2 : jL), Q1 x0 x1 x2 → Q2 x0 x1 x2 → Q3 x0 x1 x2) : f_X9_readFamily v0 v1 Z I L Q3 := by
  unfold f_X9_readFamily at h1 h2 ⊢
  refine and_X9_look h1 h2 (fun r7 I3 L4 h1 h2 => ?_)
  intro x8 ex8
  have h1 := h1 x8 ex8
  have h2 := h2 x8 ex8
  refine and_X11_isFamily h1 h2 (fun r15 I11 L12 h1 h2 => ?_)
  refine ⟨fun c => ?_, fun c => ?_⟩
  · have h1 := h1.1 c
    have h2 := h2.1 c
    intro I17 eI17
    have h1 := h1 I17 eI17
    have h2 := h2 I17 eI17
    exact hq _ _ _ h1 h2
  · have h1 := h1.2 c
    have h2 := h2.2 c
    refine and_X9_fail h1 h2 (fun r24 I20 L21 h1 h2 => ?_)
    exact hq _ _ _ h1 h2
set_option maxHeartbeats 4000000 in
theorem and_X9_readTimes {v0 : Nat} {v1 : Nat} {Z : jZ} {I : jI} {L : jL} {Q1 Q2 Q3 : Int32 → jI → jL → Prop} (h1 : f_X9_readTimes v0 v1 Z I L Q1) (h2 : f_X9_readTimes v0 v1 Z I L Q2) (hq : ∀ (x0 : Int32) (x1 : jI) (x2 : jL), Q1 x0 x1 x2 → Q2 x0 x1 x2 → Q3 x0 x1 x2) : f_X9_readTimes v0 v1 Z I L Q3 := by
  unfold f_X9_readTimes at h1 h2 ⊢
  refine and_X9_look h1 h2 (fun r7 I3 L4 h1 h2 => ?_)
  refine ⟨fun c => ?_, fun c => ?_⟩
  · have h1 := h1.1 c
    have h2 := h2.1 c
    intro I9 eI9
    have h1 := h1 I9 eI9
    have h2 := h2 I9 eI9
    refine and_X9_readNumber h1 h2 (fun r16 I12 L13 h1 h2 => ?_)
    exact hq _ _ _ h1 h2
  · have h1 := h1.2 c
    have h2 := h2.2 c
    exact hq _ _ _ h1 h2
set_option maxHeartbeats 4000000 in
theorem and_X9_put {v0 : Nat} {v1 : Int32} {v2 : Int32} {v3 : Int32} {v4 : Int32} {v5 : Int32} {Z : jZ} {I : jI} {L : jL} {Q1 Q2 Q3 : jI → jL → Prop} (h1 : f_X9_put v0 v1 v2 v3 v4 v5 Z I L Q1) (h2 : f_X9_put v0 v1 v2 v3 v4 v5 Z I L Q2) (hq : ∀ (x0 : jI) (x1 : jL), Q1 x0 x1 → Q2 x0 x1 → Q3 x0 x1) : f_X9_put v0 v1 v2 v3 v4 v5 Z I L Q3 := by
  unfold f_X9_put at h1 h2 ⊢
  refine ⟨fun c => ?_, fun c => ?_⟩
  · have h1 := h1.1 c
    have h2 := h2.1 c
    exact hq _ _ h1 h2
  · have h1 := h1.2 c
    have h2 := h2.2 c
    intro b2 eb2
    have h1 := h1 b2 eb2
    have h2 := h2 b2 eb2
    refine ⟨h1.1, ?_⟩
    have h1 := h1.2
    have h2 := h2.2
    intro I4 eI4
    have h1 := h1 I4 eI4
    have h2 := h2 I4 eI4
    intro b5 eb5
    have h1 := h1 b5 eb5
    have h2 := h2 b5 eb5
    refine ⟨h1.1, ?_⟩
    have h1 := h1.2
    have h2 := h2.2
    intro I7 eI7
    have h1 := h1 I7 eI7
    have h2 := h2 I7 eI7
    intro b8 eb8
    have h1 := h1 b8 eb8
    have h2 := h2 b8 eb8
    refine ⟨h1.1, ?_⟩
    have h1 := h1.2
    have h2 := h2.2
    intro I10 eI10
    have h1 := h1 I10 eI10
    have h2 := h2 I10 eI10
    intro b11 eb11
    have h1 := h1 b11 eb11
    have h2 := h2 b11 eb11
    refine ⟨h1.1, ?_⟩
    have h1 := h1.2
    have h2 := h2.2
    intro I13 eI13
    have h1 := h1 I13 eI13
    have h2 := h2 I13 eI13
    intro b14 eb14
    have h1 := h1 b14 eb14
    have h2 := h2 b14 eb14
    refine ⟨h1.1, ?_⟩
    have h1 := h1.2
    have h2 := h2.2
    intro I16 eI16
    have h1 := h1 I16 eI16
    have h2 := h2 I16 eI16
    intro I17 eI17
    have h1 := h1 I17 eI17
    have h2 := h2 I17 eI17
    exact hq _ _ h1 h2
set_option maxHeartbeats 4000000 in
theorem and_X9_readLine_L151 {Z : jZ} {Q1 Q2 Q3 : Int32 → jI → jL → Prop} (hq : ∀ (x0 : Int32) (x1 : jI) (x2 : jL), Q1 x0 x1 x2 → Q2 x0 x1 x2 → Q3 x0 x1 x2) : ∀ (n m : Nat) (v0 : Nat) (v2 : Int32) (v3 : Int32) (v4 : Int32) (v5 : Int32) (v6 : Int32) (v7 : Int32) (v8 : Int32) (I : jI) (L : jL), f_X9_readLine_L151 Z Q1 n v0 v2 v3 v4 v5 v6 v7 v8 I L → f_X9_readLine_L151 Z Q2 m v0 v2 v3 v4 v5 v6 v7 v8 I L → f_X9_readLine_L151 Z Q3 n v0 v2 v3 v4 v5 v6 v7 v8 I L := by
  intro n
  induction n with
  | zero => intro m v0 v2 v3 v4 v5 v6 v7 v8 I L h1 h2; exact h1.elim
  | succ n ih =>
    intro m v0 v2 v3 v4 v5 v6 v7 v8 I L h1 h2
    cases m with
    | zero => exact h2.elim
    | succ m =>
      unfold f_X9_readLine_L151 at h1 h2 ⊢
      refine ⟨fun c => ?_, fun c => ?_⟩
      · have h1 := h1.1 c
        have h2 := h2.1 c
        refine ⟨fun c => ?_, fun c => ?_⟩
        · have h1 := h1.1 c
          have h2 := h2.1 c
          exact hq _ _ _ h1 h2
        · have h1 := h1.2 c
          have h2 := h2.2 c
          exact hq _ _ _ h1 h2
      · have h1 := h1.2 c
        have h2 := h2.2 c
        refine and_X9_put h1 h2 (fun I5 L6 h1 h2 => ?_)
        intro x9 ex9
        have h1 := h1 x9 ex9
        have h2 := h2 x9 ex9
        exact ih _ _ _ _ _ _ _ _ _ _ _ h1 h2
set_option maxHeartbeats 4000000 in
theorem and_X9_readLine {v0 : Nat} {v1 : Nat} {Z : jZ} {I : jI} {L : jL} {Q1 Q2 Q3 : Int32 → jI → jL → Prop} (h1 : f_X9_readLine v0 v1 Z I L Q1) (h2 : f_X9_readLine v0 v1 Z I L Q2) (hq : ∀ (x0 : Int32) (x1 : jI) (x2 : jL), Q1 x0 x1 x2 → Q2 x0 x1 x2 → Q3 x0 x1 x2) : f_X9_readLine v0 v1 Z I L Q3 := by
  unfold f_X9_readLine at h1 h2 ⊢
  refine ⟨fun c => ?_, fun c => ?_⟩
  · have h1 := h1.1 c
    have h2 := h2.1 c
    refine and_X9_readNumber h1 h2 (fun r26 I22 L23 h1 h2 => ?_)
    refine ⟨fun c => ?_, fun c => ?_⟩
    · have h1 := h1.1 c
      have h2 := h2.1 c
      exact hq _ _ _ h1 h2
    · have h1 := h1.2 c
      have h2 := h2.2 c
      refine and_X9_readMark h1 h2 (fun r34 I30 L31 h1 h2 => ?_)
      refine ⟨fun c => ?_, fun c => ?_⟩
      · have h1 := h1.1 c
        have h2 := h2.1 c
        refine and_X9_readNumber h1 h2 (fun r42 I38 L39 h1 h2 => ?_)
        refine ⟨fun c => ?_, fun c => ?_⟩
        · have h1 := h1.1 c
          have h2 := h2.1 c
          exact hq _ _ _ h1 h2
        · have h1 := h1.2 c
          have h2 := h2.2 c
          refine and_X9_readMark h1 h2 (fun r50 I46 L47 h1 h2 => ?_)
          refine ⟨fun c => ?_, fun c => ?_⟩
          · have h1 := h1.1 c
            have h2 := h2.1 c
            refine and_X9_readNumber h1 h2 (fun r58 I54 L55 h1 h2 => ?_)
            refine ⟨fun c => ?_, fun c => ?_⟩
            · have h1 := h1.1 c
              have h2 := h2.1 c
              exact hq _ _ _ h1 h2
            · have h1 := h1.2 c
              have h2 := h2.2 c
              refine and_X9_readMark h1 h2 (fun r66 I62 L63 h1 h2 => ?_)
              refine ⟨fun c => ?_, fun c => ?_⟩
              · have h1 := h1.1 c
                have h2 := h2.1 c
                refine and_X9_readFamily h1 h2 (fun r74 I70 L71 h1 h2 => ?_)
                refine ⟨fun c => ?_, fun c => ?_⟩
                · have h1 := h1.1 c
                  have h2 := h2.1 c
                  refine and_X9_look h1 h2 (fun r82 I78 L79 h1 h2 => ?_)
                  refine ⟨fun c => ?_, fun c => ?_⟩
                  · have h1 := h1.1 c
                    have h2 := h2.1 c
                    unfold f_X9_readLine_b128 at h1 h2 ⊢
                    intro I10 eI10
                    have h1 := h1 I10 eI10
                    have h2 := h2 I10 eI10
                    refine and_X9_readTimes h1 h2 (fun r17 I13 L14 h1 h2 => ?_)
                    obtain ⟨n1, h1⟩ := h1
                    obtain ⟨n2, h2⟩ := h2
                    exact ⟨n1, and_X9_readLine_L151  hq n1 n2 _ _ _ _ _ _ _ _ _ _ h1 h2⟩
                  · have h1 := h1.2 c
                    have h2 := h2.2 c
                    unfold f_X9_readLine_b128 at h1 h2 ⊢
                    intro I10 eI10
                    have h1 := h1 I10 eI10
                    have h2 := h2 I10 eI10
                    refine and_X9_readTimes h1 h2 (fun r17 I13 L14 h1 h2 => ?_)
                    obtain ⟨n1, h1⟩ := h1
                    obtain ⟨n2, h2⟩ := h2
                    exact ⟨n1, and_X9_readLine_L151  hq n1 n2 _ _ _ _ _ _ _ _ _ _ h1 h2⟩
                · have h1 := h1.2 c
                  have h2 := h2.2 c
                  exact hq _ _ _ h1 h2
              · have h1 := h1.2 c
                have h2 := h2.2 c
                exact hq _ _ _ h1 h2
          · have h1 := h1.2 c
            have h2 := h2.2 c
            exact hq _ _ _ h1 h2
      · have h1 := h1.2 c
        have h2 := h2.2 c
        exact hq _ _ _ h1 h2
  · have h1 := h1.2 c
    have h2 := h2.2 c
    refine and_X9_fail h1 h2 (fun r90 I86 L87 h1 h2 => ?_)
    exact hq _ _ _ h1 h2
set_option maxHeartbeats 4000000 in
theorem and_X9_readBreak {v0 : Nat} {v1 : Nat} {Z : jZ} {I : jI} {L : jL} {Q1 Q2 Q3 : Int32 → jI → jL → Prop} (h1 : f_X9_readBreak v0 v1 Z I L Q1) (h2 : f_X9_readBreak v0 v1 Z I L Q2) (hq : ∀ (x0 : Int32) (x1 : jI) (x2 : jL), Q1 x0 x1 x2 → Q2 x0 x1 x2 → Q3 x0 x1 x2) : f_X9_readBreak v0 v1 Z I L Q3 := by
  unfold f_X9_readBreak at h1 h2 ⊢
  refine ⟨fun c => ?_, fun c => ?_⟩
  · have h1 := h1.1 c
    have h2 := h2.1 c
    exact hq _ _ _ h1 h2
  · have h1 := h1.2 c
    have h2 := h2.2 c
    refine and_X9_readMark h1 h2 (fun r8 I4 L5 h1 h2 => ?_)
    refine ⟨fun c => ?_, fun c => ?_⟩
    · have h1 := h1.1 c
      have h2 := h2.1 c
      exact hq _ _ _ h1 h2
    · have h1 := h1.2 c
      have h2 := h2.2 c
      exact hq _ _ _ h1 h2
set_option maxHeartbeats 4000000 in
theorem and_X9_read_L43 {Z : jZ} {Q1 Q2 Q3 : Int32 → jI → jL → Prop} (hq : ∀ (x0 : Int32) (x1 : jI) (x2 : jL), Q1 x0 x1 x2 → Q2 x0 x1 x2 → Q3 x0 x1 x2) : ∀ (n m : Nat) (v0 : Nat) (v1 : Nat) (v2 : Int32) (v3 : Int32) (I : jI) (L : jL), f_X9_read_L43 Z Q1 n v0 v1 v2 v3 I L → f_X9_read_L43 Z Q2 m v0 v1 v2 v3 I L → f_X9_read_L43 Z Q3 n v0 v1 v2 v3 I L := by
  intro n
  induction n with
  | zero => intro m v0 v1 v2 v3 I L h1 h2; exact h1.elim
  | succ n ih =>
    intro m v0 v1 v2 v3 I L h1 h2
    cases m with
    | zero => exact h2.elim
    | succ m =>
      unfold f_X9_read_L43 at h1 h2 ⊢
      refine ⟨fun c => ?_, fun c => ?_⟩
      · have h1 := h1.1 c
        have h2 := h2.1 c
        unfold f_X9_read_b81 at h1 h2 ⊢
        refine ⟨fun c => ?_, fun c => ?_⟩
        · have h1 := h1.1 c
          have h2 := h2.1 c
          unfold f_X9_read_b104 at h1 h2 ⊢
          refine ⟨fun c => ?_, fun c => ?_⟩
          · have h1 := h1.1 c
            have h2 := h2.1 c
            refine ⟨fun c => ?_, fun c => ?_⟩
            · have h1 := h1.1 c
              have h2 := h2.1 c
              exact hq _ _ _ h1 h2
            · have h1 := h1.2 c
              have h2 := h2.2 c
              exact hq _ _ _ h1 h2
          · have h1 := h1.2 c
            have h2 := h2.2 c
            exact hq _ _ _ h1 h2
        · have h1 := h1.2 c
          have h2 := h2.2 c
          refine ⟨fun c => ?_, fun c => ?_⟩
          · have h1 := h1.1 c
            have h2 := h2.1 c
            unfold f_X9_read_b104 at h1 h2 ⊢
            refine ⟨fun c => ?_, fun c => ?_⟩
            · have h1 := h1.1 c
              have h2 := h2.1 c
              refine ⟨fun c => ?_, fun c => ?_⟩
              · have h1 := h1.1 c
                have h2 := h2.1 c
                exact hq _ _ _ h1 h2
              · have h1 := h1.2 c
                have h2 := h2.2 c
                exact hq _ _ _ h1 h2
            · have h1 := h1.2 c
              have h2 := h2.2 c
              exact hq _ _ _ h1 h2
          · have h1 := h1.2 c
            have h2 := h2.2 c
            intro I5 eI5
            have h1 := h1 I5 eI5
            have h2 := h2 I5 eI5
            unfold f_X9_read_b104 at h1 h2 ⊢
            refine ⟨fun c => ?_, fun c => ?_⟩
            · have h1 := h1.1 c
              have h2 := h2.1 c
              refine ⟨fun c => ?_, fun c => ?_⟩
              · have h1 := h1.1 c
                have h2 := h2.1 c
                exact hq _ _ _ h1 h2
              · have h1 := h1.2 c
                have h2 := h2.2 c
                exact hq _ _ _ h1 h2
            · have h1 := h1.2 c
              have h2 := h2.2 c
              exact hq _ _ _ h1 h2
      · have h1 := h1.2 c
        have h2 := h2.2 c
        refine ⟨fun c => ?_, fun c => ?_⟩
        · have h1 := h1.1 c
          have h2 := h2.1 c
          unfold f_X9_read_b81 at h1 h2 ⊢
          refine ⟨fun c => ?_, fun c => ?_⟩
          · have h1 := h1.1 c
            have h2 := h2.1 c
            unfold f_X9_read_b104 at h1 h2 ⊢
            refine ⟨fun c => ?_, fun c => ?_⟩
            · have h1 := h1.1 c
              have h2 := h2.1 c
              refine ⟨fun c => ?_, fun c => ?_⟩
              · have h1 := h1.1 c
                have h2 := h2.1 c
                exact hq _ _ _ h1 h2
              · have h1 := h1.2 c
                have h2 := h2.2 c
                exact hq _ _ _ h1 h2
            · have h1 := h1.2 c
              have h2 := h2.2 c
              exact hq _ _ _ h1 h2
          · have h1 := h1.2 c
            have h2 := h2.2 c
            refine ⟨fun c => ?_, fun c => ?_⟩
            · have h1 := h1.1 c
              have h2 := h2.1 c
              unfold f_X9_read_b104 at h1 h2 ⊢
              refine ⟨fun c => ?_, fun c => ?_⟩
              · have h1 := h1.1 c
                have h2 := h2.1 c
                refine ⟨fun c => ?_, fun c => ?_⟩
                · have h1 := h1.1 c
                  have h2 := h2.1 c
                  exact hq _ _ _ h1 h2
                · have h1 := h1.2 c
                  have h2 := h2.2 c
                  exact hq _ _ _ h1 h2
              · have h1 := h1.2 c
                have h2 := h2.2 c
                exact hq _ _ _ h1 h2
            · have h1 := h1.2 c
              have h2 := h2.2 c
              intro I5 eI5
              have h1 := h1 I5 eI5
              have h2 := h2 I5 eI5
              unfold f_X9_read_b104 at h1 h2 ⊢
              refine ⟨fun c => ?_, fun c => ?_⟩
              · have h1 := h1.1 c
                have h2 := h2.1 c
                refine ⟨fun c => ?_, fun c => ?_⟩
                · have h1 := h1.1 c
                  have h2 := h2.1 c
                  exact hq _ _ _ h1 h2
                · have h1 := h1.2 c
                  have h2 := h2.2 c
                  exact hq _ _ _ h1 h2
              · have h1 := h1.2 c
                have h2 := h2.2 c
                exact hq _ _ _ h1 h2
        · have h1 := h1.2 c
          have h2 := h2.2 c
          refine and_X9_readLine h1 h2 (fun r15 I11 L12 h1 h2 => ?_)
          refine ⟨fun c => ?_, fun c => ?_⟩
          · have h1 := h1.1 c
            have h2 := h2.1 c
            unfold f_X9_read_b73 at h1 h2 ⊢
            unfold f_X9_read_b74 at h1 h2 ⊢
            intro x6 ex6
            have h1 := h1 x6 ex6
            have h2 := h2 x6 ex6
            exact ih _ _ _ _ _ _ _ h1 h2
          · have h1 := h1.2 c
            have h2 := h2.2 c
            refine and_X9_readBreak h1 h2 (fun r23 I19 L20 h1 h2 => ?_)
            refine ⟨fun c => ?_, fun c => ?_⟩
            · have h1 := h1.1 c
              have h2 := h2.1 c
              unfold f_X9_read_b73 at h1 h2 ⊢
              unfold f_X9_read_b74 at h1 h2 ⊢
              intro x6 ex6
              have h1 := h1 x6 ex6
              have h2 := h2 x6 ex6
              exact ih _ _ _ _ _ _ _ h1 h2
            · have h1 := h1.2 c
              have h2 := h2.2 c
              unfold f_X9_read_b74 at h1 h2 ⊢
              intro x6 ex6
              have h1 := h1 x6 ex6
              have h2 := h2 x6 ex6
              exact ih _ _ _ _ _ _ _ h1 h2
set_option maxHeartbeats 4000000 in
theorem and_X9_read {v0 : Nat} {v1 : Nat} {Z : jZ} {I : jI} {L : jL} {Q1 Q2 Q3 : Int32 → jI → jL → Prop} (h1 : f_X9_read v0 v1 Z I L Q1) (h2 : f_X9_read v0 v1 Z I L Q2) (hq : ∀ (x0 : Int32) (x1 : jI) (x2 : jL), Q1 x0 x1 x2 → Q2 x0 x1 x2 → Q3 x0 x1 x2) : f_X9_read v0 v1 Z I L Q3 := by
  unfold f_X9_read at h1 h2 ⊢
  intro I26 eI26
  have h1 := h1 I26 eI26
  have h2 := h2 I26 eI26
  intro I27 eI27
  have h1 := h1 I27 eI27
  have h2 := h2 I27 eI27
  intro I28 eI28
  have h1 := h1 I28 eI28
  have h2 := h2 I28 eI28
  intro I29 eI29
  have h1 := h1 I29 eI29
  have h2 := h2 I29 eI29
  refine ⟨fun c => ?_, fun c => ?_⟩
  · have h1 := h1.1 c
    have h2 := h2.1 c
    unfold f_X9_read_b40 at h1 h2 ⊢
    obtain ⟨n1, h1⟩ := h1
    obtain ⟨n2, h2⟩ := h2
    exact ⟨n1, and_X9_read_L43  hq n1 n2 _ _ _ _ _ _ h1 h2⟩
  · have h1 := h1.2 c
    have h2 := h2.2 c
    unfold f_X9_read_b40 at h1 h2 ⊢
    obtain ⟨n1, h1⟩ := h1
    obtain ⟨n2, h2⟩ := h2
    exact ⟨n1, and_X9_read_L43  hq n1 n2 _ _ _ _ _ _ h1 h2⟩
set_option maxHeartbeats 4000000 in
theorem and_X10_clear {v0 : Nat} {Z : jZ} {I : jI} {L : jL} {Q1 Q2 Q3 : jI → jL → Prop} (h1 : f_X10_clear v0 Z I L Q1) (h2 : f_X10_clear v0 Z I L Q2) (hq : ∀ (x0 : jI) (x1 : jL), Q1 x0 x1 → Q2 x0 x1 → Q3 x0 x1) : f_X10_clear v0 Z I L Q3 := by
  unfold f_X10_clear at h1 h2 ⊢
  intro I1 eI1
  have h1 := h1 I1 eI1
  have h2 := h2 I1 eI1
  exact hq _ _ h1 h2
set_option maxHeartbeats 4000000 in
theorem and_J7_fill_53178_L5 {Z : jZ} {Q1 Q2 Q3 : jI → jL → Prop} (hq : ∀ (x0 : jI) (x1 : jL), Q1 x0 x1 → Q2 x0 x1 → Q3 x0 x1) : ∀ (n m : Nat) (v0 : Nat) (v1 : Int32) (v2 : Int32) (v3 : Int32) (I : jI) (L : jL), f_J7_fill_53178_L5 Z Q1 n v0 v1 v2 v3 I L → f_J7_fill_53178_L5 Z Q2 m v0 v1 v2 v3 I L → f_J7_fill_53178_L5 Z Q3 n v0 v1 v2 v3 I L := by
  intro n
  induction n with
  | zero => intro m v0 v1 v2 v3 I L h1 h2; exact h1.elim
  | succ n ih =>
    intro m v0 v1 v2 v3 I L h1 h2
    cases m with
    | zero => exact h2.elim
    | succ m =>
      unfold f_J7_fill_53178_L5 at h1 h2 ⊢
      refine ⟨fun c => ?_, fun c => ?_⟩
      · have h1 := h1.1 c
        have h2 := h2.1 c
        exact hq _ _ h1 h2
      · have h1 := h1.2 c
        have h2 := h2.2 c
        refine ⟨h1.1, ?_⟩
        have h1 := h1.2
        have h2 := h2.2
        intro I3 eI3
        have h1 := h1 I3 eI3
        have h2 := h2 I3 eI3
        intro x4 ex4
        have h1 := h1 x4 ex4
        have h2 := h2 x4 ex4
        exact ih _ _ _ _ _ _ _ h1 h2
set_option maxHeartbeats 4000000 in
theorem and_J7_fill_53178 {v0 : Nat} {v1 : Int32} {Z : jZ} {I : jI} {L : jL} {Q1 Q2 Q3 : jI → jL → Prop} (h1 : f_J7_fill_53178 v0 v1 Z I L Q1) (h2 : f_J7_fill_53178 v0 v1 Z I L Q2) (hq : ∀ (x0 : jI) (x1 : jL), Q1 x0 x1 → Q2 x0 x1 → Q3 x0 x1) : f_J7_fill_53178 v0 v1 Z I L Q3 := by
  unfold f_J7_fill_53178 at h1 h2 ⊢
  intro x5 ex5
  have h1 := h1 x5 ex5
  have h2 := h2 x5 ex5
  obtain ⟨n1, h1⟩ := h1
  obtain ⟨n2, h2⟩ := h2
  exact ⟨n1, and_J7_fill_53178_L5  hq n1 n2 _ _ _ _ _ _ h1 h2⟩
set_option maxHeartbeats 4000000 in
theorem and_X4_deal_L10 {Z : jZ} {Q1 Q2 Q3 : jI → jL → Prop} (hq : ∀ (x0 : jI) (x1 : jL), Q1 x0 x1 → Q2 x0 x1 → Q3 x0 x1) : ∀ (n m : Nat) (v0 : Nat) (v1 : Nat) (v2 : Int32) (v3 : Int32) (I : jI) (L : jL), f_X4_deal_L10 Z Q1 n v0 v1 v2 v3 I L → f_X4_deal_L10 Z Q2 m v0 v1 v2 v3 I L → f_X4_deal_L10 Z Q3 n v0 v1 v2 v3 I L := by
  intro n
  induction n with
  | zero => intro m v0 v1 v2 v3 I L h1 h2; exact h1.elim
  | succ n ih =>
    intro m v0 v1 v2 v3 I L h1 h2
    cases m with
    | zero => exact h2.elim
    | succ m =>
      unfold f_X4_deal_L10 at h1 h2 ⊢
      refine ⟨fun c => ?_, fun c => ?_⟩
      · have h1 := h1.1 c
        have h2 := h2.1 c
        unfold f_X4_deal_b58 at h1 h2 ⊢
        intro I1 eI1
        have h1 := h1 I1 eI1
        have h2 := h2 I1 eI1
        refine and_X4_findMains h1 h2 (fun I4 L5 h1 h2 => ?_)
        exact hq _ _ h1 h2
      · have h1 := h1.2 c
        have h2 := h2.2 c
        refine ⟨fun c => ?_, fun c => ?_⟩
        · have h1 := h1.1 c
          have h2 := h2.1 c
          unfold f_X4_deal_b58 at h1 h2 ⊢
          intro I1 eI1
          have h1 := h1 I1 eI1
          have h2 := h2 I1 eI1
          refine and_X4_findMains h1 h2 (fun I4 L5 h1 h2 => ?_)
          exact hq _ _ h1 h2
        · have h1 := h1.2 c
          have h2 := h2.2 c
          refine ⟨fun c => ?_, fun c => ?_⟩
          · have h1 := h1.1 c
            have h2 := h2.1 c
            unfold f_X4_deal_b58 at h1 h2 ⊢
            intro I1 eI1
            have h1 := h1 I1 eI1
            have h2 := h2 I1 eI1
            refine and_X4_findMains h1 h2 (fun I4 L5 h1 h2 => ?_)
            exact hq _ _ h1 h2
          · have h1 := h1.2 c
            have h2 := h2.2 c
            refine ⟨h1.1, ?_⟩
            have h1 := h1.2
            have h2 := h2.2
            refine and_X11_isFamily h1 h2 (fun r19 I15 L16 h1 h2 => ?_)
            refine ⟨fun c => ?_, fun c => ?_⟩
            · have h1 := h1.1 c
              have h2 := h2.1 c
              unfold f_X4_deal_b52 at h1 h2 ⊢
              intro x8 ex8
              have h1 := h1 x8 ex8
              have h2 := h2 x8 ex8
              exact ih _ _ _ _ _ _ _ h1 h2
            · have h1 := h1.2 c
              have h2 := h2.2 c
              intro b21 eb21
              have h1 := h1 b21 eb21
              have h2 := h2 b21 eb21
              refine ⟨h1.1, ?_⟩
              have h1 := h1.2
              have h2 := h2.2
              refine ⟨h1.1, ?_⟩
              have h1 := h1.2
              have h2 := h2.2
              intro I24 eI24
              have h1 := h1 I24 eI24
              have h2 := h2 I24 eI24
              unfold f_X4_deal_b52 at h1 h2 ⊢
              intro x8 ex8
              have h1 := h1 x8 ex8
              have h2 := h2 x8 ex8
              exact ih _ _ _ _ _ _ _ h1 h2
set_option maxHeartbeats 4000000 in
theorem and_X4_deal {v0 : Nat} {v1 : Nat} {v2 : Int32} {Z : jZ} {I : jI} {L : jL} {Q1 Q2 Q3 : jI → jL → Prop} (h1 : f_X4_deal v0 v1 v2 Z I L Q1) (h2 : f_X4_deal v0 v1 v2 Z I L Q2) (hq : ∀ (x0 : jI) (x1 : jL), Q1 x0 x1 → Q2 x0 x1 → Q3 x0 x1) : f_X4_deal v0 v1 v2 Z I L Q3 := by
  unfold f_X4_deal at h1 h2 ⊢
  intro b25 eb25
  have h1 := h1 b25 eb25
  have h2 := h2 b25 eb25
  refine and_J7_fill_53178 h1 h2 (fun I28 L29 h1 h2 => ?_)
  obtain ⟨n1, h1⟩ := h1
  obtain ⟨n2, h2⟩ := h2
  exact ⟨n1, and_X4_deal_L10  hq n1 n2 _ _ _ _ _ _ h1 h2⟩
set_option maxHeartbeats 4000000 in
theorem and_X8_build {v0 : Nat} {v1 : Nat} {Z : jZ} {I : jI} {L : jL} {Q1 Q2 Q3 : jI → jL → Prop} (h1 : f_X8_build v0 v1 Z I L Q1) (h2 : f_X8_build v0 v1 Z I L Q2) (hq : ∀ (x0 : jI) (x1 : jL), Q1 x0 x1 → Q2 x0 x1 → Q3 x0 x1) : f_X8_build v0 v1 Z I L Q3 := by
  unfold f_X8_build at h1 h2 ⊢
  intro I1 eI1
  have h1 := h1 I1 eI1
  have h2 := h2 I1 eI1
  intro b2 eb2
  have h1 := h1 b2 eb2
  have h2 := h2 b2 eb2
  intro b3 eb3
  have h1 := h1 b3 eb3
  have h2 := h2 b3 eb3
  refine ⟨h1.1, ?_⟩
  have h1 := h1.2
  have h2 := h2.2
  intro I5 eI5
  have h1 := h1 I5 eI5
  have h2 := h2 I5 eI5
  intro b6 eb6
  have h1 := h1 b6 eb6
  have h2 := h2 b6 eb6
  intro b7 eb7
  have h1 := h1 b7 eb7
  have h2 := h2 b7 eb7
  refine ⟨h1.1, ?_⟩
  have h1 := h1.2
  have h2 := h2.2
  intro I9 eI9
  have h1 := h1 I9 eI9
  have h2 := h2 I9 eI9
  intro b10 eb10
  have h1 := h1 b10 eb10
  have h2 := h2 b10 eb10
  intro b11 eb11
  have h1 := h1 b11 eb11
  have h2 := h2 b11 eb11
  refine ⟨h1.1, ?_⟩
  have h1 := h1.2
  have h2 := h2.2
  intro I13 eI13
  have h1 := h1 I13 eI13
  have h2 := h2 I13 eI13
  intro b14 eb14
  have h1 := h1 b14 eb14
  have h2 := h2 b14 eb14
  intro b15 eb15
  have h1 := h1 b15 eb15
  have h2 := h2 b15 eb15
  refine ⟨h1.1, ?_⟩
  have h1 := h1.2
  have h2 := h2.2
  intro I17 eI17
  have h1 := h1 I17 eI17
  have h2 := h2 I17 eI17
  intro b18 eb18
  have h1 := h1 b18 eb18
  have h2 := h2 b18 eb18
  intro b19 eb19
  have h1 := h1 b19 eb19
  have h2 := h2 b19 eb19
  refine and_X4_deal h1 h2 (fun I22 L23 h1 h2 => ?_)
  exact hq _ _ h1 h2
set_option maxHeartbeats 4000000 in
theorem and_X11_stairs_L76 {Z : jZ} {Q1 Q2 Q3 : Int32 → jI → jL → Prop} (hq : ∀ (x0 : Int32) (x1 : jI) (x2 : jL), Q1 x0 x1 x2 → Q2 x0 x1 x2 → Q3 x0 x1 x2) : ∀ (n m : Nat) (v0 : Nat) (v1 : Int32) (v2 : Int32) (I : jI) (L : jL), f_X11_stairs_L76 Z Q1 n v0 v1 v2 I L → f_X11_stairs_L76 Z Q2 m v0 v1 v2 I L → f_X11_stairs_L76 Z Q3 n v0 v1 v2 I L := by
  intro n
  induction n with
  | zero => intro m v0 v1 v2 I L h1 h2; exact h1.elim
  | succ n ih =>
    intro m v0 v1 v2 I L h1 h2
    cases m with
    | zero => exact h2.elim
    | succ m =>
      unfold f_X11_stairs_L76 at h1 h2 ⊢
      intro b1 eb1
      have h1 := h1 b1 eb1
      have h2 := h2 b1 eb1
      refine ⟨fun c => ?_, fun c => ?_⟩
      · have h1 := h1.1 c
        have h2 := h2.1 c
        exact hq _ _ _ h1 h2
      · have h1 := h1.2 c
        have h2 := h2.2 c
        intro b3 eb3
        have h1 := h1 b3 eb3
        have h2 := h2 b3 eb3
        refine ⟨h1.1, ?_⟩
        have h1 := h1.2
        have h2 := h2.2
        intro b5 eb5
        have h1 := h1 b5 eb5
        have h2 := h2 b5 eb5
        intro I6 eI6
        have h1 := h1 I6 eI6
        have h2 := h2 I6 eI6
        intro x7 ex7
        have h1 := h1 x7 ex7
        have h2 := h2 x7 ex7
        exact ih _ _ _ _ _ _ h1 h2
set_option maxHeartbeats 4000000 in
theorem and_X5_startAnew {v0 : Nat} {Z : jZ} {I : jI} {L : jL} {Q1 Q2 Q3 : jI → jL → Prop} (h1 : f_X5_startAnew v0 Z I L Q1) (h2 : f_X5_startAnew v0 Z I L Q2) (hq : ∀ (x0 : jI) (x1 : jL), Q1 x0 x1 → Q2 x0 x1 → Q3 x0 x1) : f_X5_startAnew v0 Z I L Q3 := by
  unfold f_X5_startAnew at h1 h2 ⊢
  intro I1 eI1
  have h1 := h1 I1 eI1
  have h2 := h2 I1 eI1
  intro I2 eI2
  have h1 := h1 I2 eI2
  have h2 := h2 I2 eI2
  intro I3 eI3
  have h1 := h1 I3 eI3
  have h2 := h2 I3 eI3
  exact hq _ _ h1 h2
set_option maxHeartbeats 4000000 in
theorem and_X11_stairs_L38 {Z : jZ} {Q1 Q2 Q3 : Int32 → jI → jL → Prop} (hq : ∀ (x0 : Int32) (x1 : jI) (x2 : jL), Q1 x0 x1 x2 → Q2 x0 x1 x2 → Q3 x0 x1 x2) : ∀ (n m : Nat) (v0 : Nat) (v1 : Int32) (v2 : Int32) (I : jI) (L : jL), f_X11_stairs_L38 Z Q1 n v0 v1 v2 I L → f_X11_stairs_L38 Z Q2 m v0 v1 v2 I L → f_X11_stairs_L38 Z Q3 n v0 v1 v2 I L := by
  intro n
  induction n with
  | zero => intro m v0 v1 v2 I L h1 h2; exact h1.elim
  | succ n ih =>
    intro m v0 v1 v2 I L h1 h2
    cases m with
    | zero => exact h2.elim
    | succ m =>
      unfold f_X11_stairs_L38 at h1 h2 ⊢
      refine ⟨fun c => ?_, fun c => ?_⟩
      · have h1 := h1.1 c
        have h2 := h2.1 c
        intro b10 eb10
        have h1 := h1 b10 eb10
        have h2 := h2 b10 eb10
        refine and_J7_fill_53178 h1 h2 (fun I13 L14 h1 h2 => ?_)
        obtain ⟨n1, h1⟩ := h1
        obtain ⟨n2, h2⟩ := h2
        exact ⟨n1, and_X11_stairs_L76  hq n1 n2 _ _ _ _ _ h1 h2⟩
      · have h1 := h1.2 c
        have h2 := h2.2 c
        refine and_X11_find h1 h2 (fun r24 I20 L21 h1 h2 => ?_)
        refine ⟨fun c => ?_, fun b25 c => ?_⟩
        · have h1 := h1.1 c
          have h2 := h2.1 c
          unfold f_X11_stairs_b60 at h1 h2 ⊢
          intro x8 ex8
          have h1 := h1 x8 ex8
          have h2 := h2 x8 ex8
          exact ih _ _ _ _ _ _ h1 h2
        · have h1 := h1.2 b25 c
          have h2 := h2.2 b25 c
          refine and_X5_startAnew h1 h2 (fun I29 L30 h1 h2 => ?_)
          unfold f_X11_stairs_b60 at h1 h2 ⊢
          intro x8 ex8
          have h1 := h1 x8 ex8
          have h2 := h2 x8 ex8
          exact ih _ _ _ _ _ _ h1 h2
set_option maxHeartbeats 4000000 in
theorem and_X11_stairs {v0 : Nat} {Z : jZ} {I : jI} {L : jL} {Q1 Q2 Q3 : Int32 → jI → jL → Prop} (h1 : f_X11_stairs v0 Z I L Q1) (h2 : f_X11_stairs v0 Z I L Q2) (hq : ∀ (x0 : Int32) (x1 : jI) (x2 : jL), Q1 x0 x1 x2 → Q2 x0 x1 x2 → Q3 x0 x1 x2) : f_X11_stairs v0 Z I L Q3 := by
  unfold f_X11_stairs at h1 h2 ⊢
  intro b33 eb33
  have h1 := h1 b33 eb33
  have h2 := h2 b33 eb33
  intro b34 eb34
  have h1 := h1 b34 eb34
  have h2 := h2 b34 eb34
  refine and_X9_read h1 h2 (fun r41 I37 L38 h1 h2 => ?_)
  intro b42 eb42
  have h1 := h1 b42 eb42
  have h2 := h2 b42 eb42
  refine and_X10_clear h1 h2 (fun I45 L46 h1 h2 => ?_)
  refine ⟨fun c => ?_, fun c => ?_⟩
  · have h1 := h1.1 c
    have h2 := h2.1 c
    intro b50 eb50
    have h1 := h1 b50 eb50
    have h2 := h2 b50 eb50
    intro b51 eb51
    have h1 := h1 b51 eb51
    have h2 := h2 b51 eb51
    refine and_X8_build h1 h2 (fun I54 L55 h1 h2 => ?_)
    obtain ⟨n1, h1⟩ := h1
    obtain ⟨n2, h2⟩ := h2
    exact ⟨n1, and_X11_stairs_L38  hq n1 n2 _ _ _ _ _ h1 h2⟩
  · have h1 := h1.2 c
    have h2 := h2.2 c
    exact hq _ _ _ h1 h2
end
section
/-! ===== what the text of a LAW says: where it ends or is at fault, and its numbers, letters and signs in the order in which they are worked off ===== -/
theorem ob {α β : Type} {o : Option α} {f : α → Option β} {b : β} (h : o.bind f = some b) : ∃ a, o = some a ∧ f a = some b := by
  cases o with
  | none => cases h
  | some a => exact ⟨a, rfl, h⟩
/-- the first d digits' value; how many digits there are, of three at most -/
def nvd (g : Int → Int) (a : Int) : Nat → Int
  | 0 => 0
  | d + 1 => nvd g a d * 10 + g (a + d) - 48
def n3 (g : Int → Int) (a : Int) : Nat := if 48 ≤ g a ∧ g a ≤ 57 then (if 48 ≤ g (a + 1) ∧ g (a + 1) ≤ 57 then (if 48 ≤ g (a + 2) ∧ g (a + 2) ≤ 57 then 3 else 2) else 1) else 0
/-- while a number is read -/
def N3 (g : Int → Int) (a : Int) (d : Nat) : Prop := d ≤ 3 ∧ ∀ i : Nat, i < d → 48 ≤ g (a + i) ∧ g (a + i) ≤ 57
theorem N3_0 {g : Int → Int} {a : Int} : N3 g a 0 := ⟨by omega, fun i h => by omega⟩
theorem N3_step {g : Int → Int} {a : Int} {d : Nat} (h : N3 g a d) (hd : d < 3) (hp : 48 ≤ g (a + d) ∧ g (a + d) ≤ 57) : N3 g a (d + 1) := ⟨by omega, fun i hi => by
  by_cases c : i = d
  · rw [c]; exact hp
  · exact h.2 i (by omega)⟩
theorem N3_end {g : Int → Int} {a : Int} {d : Nat} (h : N3 g a d) (he : d = 3 ∨ ¬ (48 ≤ g (a + d) ∧ g (a + d) ≤ 57)) : n3 g a = d := by
  obtain ⟨h3, h⟩ := h
  have a0 : a + ((0 : Nat) : Int) = a := by omega
  have hd : d = 0 ∨ d = 1 ∨ d = 2 ∨ d = 3 := by omega
  unfold n3
  rcases hd with rfl | rfl | rfl | rfl
  · have he := he.resolve_left (by omega)
    rw [a0] at he
    rw [if_neg he]
  · have he := he.resolve_left (by omega)
    have h0 := h 0 (by omega)
    rw [a0] at h0
    have he : ¬ (48 ≤ g (a + 1) ∧ g (a + 1) ≤ 57) := he
    rw [if_pos h0, if_neg he]
  · have he := he.resolve_left (by omega)
    have h0 := h 0 (by omega)
    rw [a0] at h0
    have h1 : 48 ≤ g (a + 1) ∧ g (a + 1) ≤ 57 := h 1 (by omega)
    have he : ¬ (48 ≤ g (a + 2) ∧ g (a + 2) ≤ 57) := he
    rw [if_pos h0, if_pos h1, if_neg he]
  · have h0 := h 0 (by omega)
    rw [a0] at h0
    have h1 : 48 ≤ g (a + 1) ∧ g (a + 1) ≤ 57 := h 1 (by omega)
    have h2 : 48 ≤ g (a + 2) ∧ g (a + 2) ≤ 57 := h 2 (by omega)
    rw [if_pos h0, if_pos h1, if_pos h2]
theorem N3_val {g : Int → Int} {a : Int} {d : Nat} (h : N3 g a d) : 0 ≤ nvd g a d ∧ nvd g a d ≤ 999 ∧ (d ≤ 2 → nvd g a d ≤ 99) := by
  obtain ⟨h3, h⟩ := h
  have hd : d = 0 ∨ d = 1 ∨ d = 2 ∨ d = 3 := by omega
  rcases hd with rfl | rfl | rfl | rfl
  · show 0 ≤ (0 : Int) ∧ (0 : Int) ≤ 999 ∧ (0 ≤ 2 → (0 : Int) ≤ 99)
    omega
  · have h0 := h 0 (by omega)
    show 0 ≤ (0 : Int) * 10 + g (a + (0 : Nat)) - 48 ∧ (0 : Int) * 10 + g (a + (0 : Nat)) - 48 ≤ 999 ∧ (1 ≤ 2 → (0 : Int) * 10 + g (a + (0 : Nat)) - 48 ≤ 99)
    omega
  · have h0 := h 0 (by omega)
    have h1 := h 1 (by omega)
    show 0 ≤ ((0 : Int) * 10 + g (a + (0 : Nat)) - 48) * 10 + g (a + (1 : Nat)) - 48 ∧ ((0 : Int) * 10 + g (a + (0 : Nat)) - 48) * 10 + g (a + (1 : Nat)) - 48 ≤ 999 ∧ (2 ≤ 2 → ((0 : Int) * 10 + g (a + (0 : Nat)) - 48) * 10 + g (a + (1 : Nat)) - 48 ≤ 99)
    omega
  · have h0 := h 0 (by omega)
    have h1 := h 1 (by omega)
    have h2 := h 2 (by omega)
    show 0 ≤ (((0 : Int) * 10 + g (a + (0 : Nat)) - 48) * 10 + g (a + (1 : Nat)) - 48) * 10 + g (a + (2 : Nat)) - 48 ∧ (((0 : Int) * 10 + g (a + (0 : Nat)) - 48) * 10 + g (a + (1 : Nat)) - 48) * 10 + g (a + (2 : Nat)) - 48 ≤ 999 ∧ (3 ≤ 2 → (((0 : Int) * 10 + g (a + (0 : Nat)) - 48) * 10 + g (a + (1 : Nat)) - 48) * 10 + g (a + (2 : Nat)) - 48 ≤ 99)
    omega
theorem n3_is {g : Int → Int} {a : Int} : N3 g a (n3 g a) := by
  have a0 : a + ((0 : Nat) : Int) = a := by omega
  unfold n3
  split
  · rename_i c0
    have s1 : N3 g a 1 := N3_step N3_0 (by omega) (by rw [a0]; exact c0)
    split
    · rename_i c1
      have s2 : N3 g a 2 := N3_step s1 (by omega) c1
      split
      · rename_i c2
        exact N3_step s2 (by omega) c2
      · exact s2
    · exact s1
  · exact N3_0
/-- (where it stops, where it is at fault or -1, the numbers): 0 an expression, 1 a sum, 2 a product, 3 and 7 a thing with an even, an odd number of - ahead of it, 6 a thing, 4 what more is added, 5 what more is multiplied -/
def PL (g : Int → Int) : Nat → Nat → Nat → Int → Option (Int × Int × List Int)
  | 0, _, _, _ => none
  | d + 1, w, k, a => match w with
    | 0 => (PL g d 1 k a).bind fun s => if s.2.1 = -1 ∧ (g s.1 = 60 ∨ g s.1 = 62 ∨ g s.1 = 61) then (PL g d 1 k (s.1 + 1)).bind fun t => some (t.1, t.2.1, s.2.2 ++ t.2.2 ++ [2000 + g s.1]) else some s
    | 1 => (PL g d 2 k a).bind fun s => if s.2.1 = -1 then (PL g d 4 k s.1).bind fun t => some (t.1, t.2.1, s.2.2 ++ t.2.2) else some s
    | 2 => (PL g d 3 k a).bind fun s => if s.2.1 = -1 then (PL g d 5 k s.1).bind fun t => some (t.1, t.2.1, s.2.2 ++ t.2.2) else some s
    | 3 => if g a = 45 then PL g d 7 k (a + 1) else PL g d 6 k a
    | 4 => if g a = 43 ∨ g a = 45 then (PL g d 2 k (a + 1)).bind fun s => if s.2.1 = -1 then (PL g d 4 k s.1).bind fun t => some (t.1, t.2.1, s.2.2 ++ [2000 + g a] ++ t.2.2) else some s else some (a, -1, [])
    | 5 => if g a = 42 ∨ g a = 47 then (PL g d 3 k (a + 1)).bind fun s => if s.2.1 = -1 then (PL g d 5 k s.1).bind fun t => some (t.1, t.2.1, s.2.2 ++ [2000 + g a] ++ t.2.2) else some s else some (a, -1, [])
    | 6 => if 48 ≤ g a ∧ g a ≤ 57 then some (a + n3 g a, -1, [nvd g a (n3 g a)]) else if 0 ≤ lix (g a) then some (a + 1, -1, [1000 + lix (g a)]) else if g a = 40 ∧ k < 4 then (PL g d 0 (k + 1) (a + 1)).bind fun s => if s.2.1 = -1 then (if g s.1 = 41 then some (s.1 + 1, -1, s.2.2) else some (s.1, s.1, [])) else some s else some (a, a, [])
    | _ => if g a = 45 then PL g d 3 k (a + 1) else (PL g d 6 k a).bind fun s => some (s.1, s.2.1, s.2.2 ++ [2000])
/-- what is said when a part has been read -/
theorem PL_i0 {g : Int → Int} {d k : Nat} {a : Int} {r : Int × Int × List Int} (h : PL g (d + 1) 0 k a = some r) : ∃ s, PL g d 1 k a = some s ∧ ((s.2.1 = -1 ∧ (g s.1 = 60 ∨ g s.1 = 62 ∨ g s.1 = 61) ∧ ∃ t, PL g d 1 k (s.1 + 1) = some t ∧ r = (t.1, t.2.1, s.2.2 ++ t.2.2 ++ [2000 + g s.1])) ∨ (¬ (s.2.1 = -1 ∧ (g s.1 = 60 ∨ g s.1 = 62 ∨ g s.1 = 61)) ∧ r = s)) := by
  obtain ⟨s, e, h⟩ := ob (show (PL g d 1 k a).bind _ = some r from h)
  refine ⟨s, e, ?_⟩
  by_cases c : s.2.1 = -1 ∧ (g s.1 = 60 ∨ g s.1 = 62 ∨ g s.1 = 61)
  · rw [if_pos c] at h
    obtain ⟨t, e', h⟩ := ob h
    cases h
    exact Or.inl ⟨c.1, c.2, t, e', rfl⟩
  · rw [if_neg c] at h
    cases h
    exact Or.inr ⟨c, rfl⟩
theorem PL_i1 {g : Int → Int} {d k : Nat} {a : Int} {r : Int × Int × List Int} (h : PL g (d + 1) 1 k a = some r) : ∃ s, PL g d 2 k a = some s ∧ ((s.2.1 = -1 ∧ ∃ t, PL g d 4 k s.1 = some t ∧ r = (t.1, t.2.1, s.2.2 ++ t.2.2)) ∨ (¬ s.2.1 = -1 ∧ r = s)) := by
  obtain ⟨s, e, h⟩ := ob (show (PL g d 2 k a).bind _ = some r from h)
  refine ⟨s, e, ?_⟩
  by_cases c : s.2.1 = -1
  · rw [if_pos c] at h
    obtain ⟨t, e', h⟩ := ob h
    cases h
    exact Or.inl ⟨c, t, e', rfl⟩
  · rw [if_neg c] at h
    cases h
    exact Or.inr ⟨c, rfl⟩
theorem PL_i2 {g : Int → Int} {d k : Nat} {a : Int} {r : Int × Int × List Int} (h : PL g (d + 1) 2 k a = some r) : ∃ s, PL g d 3 k a = some s ∧ ((s.2.1 = -1 ∧ ∃ t, PL g d 5 k s.1 = some t ∧ r = (t.1, t.2.1, s.2.2 ++ t.2.2)) ∨ (¬ s.2.1 = -1 ∧ r = s)) := by
  obtain ⟨s, e, h⟩ := ob (show (PL g d 3 k a).bind _ = some r from h)
  refine ⟨s, e, ?_⟩
  by_cases c : s.2.1 = -1
  · rw [if_pos c] at h
    obtain ⟨t, e', h⟩ := ob h
    cases h
    exact Or.inl ⟨c, t, e', rfl⟩
  · rw [if_neg c] at h
    cases h
    exact Or.inr ⟨c, rfl⟩
theorem PL_i3 {g : Int → Int} {d k : Nat} {a : Int} {r : Int × Int × List Int} (h : PL g (d + 1) 3 k a = some r) : (g a = 45 ∧ PL g d 7 k (a + 1) = some r) ∨ (¬ g a = 45 ∧ PL g d 6 k a = some r) := by
  have h : (if g a = 45 then PL g d 7 k (a + 1) else PL g d 6 k a) = some r := h
  by_cases c : g a = 45
  · rw [if_pos c] at h; exact Or.inl ⟨c, h⟩
  · rw [if_neg c] at h; exact Or.inr ⟨c, h⟩
theorem PL_i7 {g : Int → Int} {d k : Nat} {a : Int} {r : Int × Int × List Int} (h : PL g (d + 1) 7 k a = some r) : (g a = 45 ∧ PL g d 3 k (a + 1) = some r) ∨ (¬ g a = 45 ∧ ∃ s, PL g d 6 k a = some s ∧ r = (s.1, s.2.1, s.2.2 ++ [2000])) := by
  have h : (if g a = 45 then PL g d 3 k (a + 1) else (PL g d 6 k a).bind fun s => some (s.1, s.2.1, s.2.2 ++ [2000])) = some r := h
  by_cases c : g a = 45
  · rw [if_pos c] at h; exact Or.inl ⟨c, h⟩
  · rw [if_neg c] at h
    obtain ⟨s, e, h⟩ := ob h
    cases h
    exact Or.inr ⟨c, s, e, rfl⟩
theorem PL_i4 {g : Int → Int} {d k : Nat} {a : Int} {r : Int × Int × List Int} (h : PL g (d + 1) 4 k a = some r) : ((g a = 43 ∨ g a = 45) ∧ ∃ s, PL g d 2 k (a + 1) = some s ∧ ((s.2.1 = -1 ∧ ∃ t, PL g d 4 k s.1 = some t ∧ r = (t.1, t.2.1, s.2.2 ++ [2000 + g a] ++ t.2.2)) ∨ (¬ s.2.1 = -1 ∧ r = s))) ∨ (¬ (g a = 43 ∨ g a = 45) ∧ r = (a, -1, [])) := by
  have h : (if g a = 43 ∨ g a = 45 then (PL g d 2 k (a + 1)).bind fun s => if s.2.1 = -1 then (PL g d 4 k s.1).bind fun t => some (t.1, t.2.1, s.2.2 ++ [2000 + g a] ++ t.2.2) else some s else some (a, -1, [])) = some r := h
  by_cases c : g a = 43 ∨ g a = 45
  · rw [if_pos c] at h
    obtain ⟨s, e, h⟩ := ob h
    refine Or.inl ⟨c, s, e, ?_⟩
    by_cases c2 : s.2.1 = -1
    · rw [if_pos c2] at h
      obtain ⟨t, e', h⟩ := ob h
      cases h
      exact Or.inl ⟨c2, t, e', rfl⟩
    · rw [if_neg c2] at h
      cases h
      exact Or.inr ⟨c2, rfl⟩
  · rw [if_neg c] at h
    cases h
    exact Or.inr ⟨c, rfl⟩
theorem PL_i5 {g : Int → Int} {d k : Nat} {a : Int} {r : Int × Int × List Int} (h : PL g (d + 1) 5 k a = some r) : ((g a = 42 ∨ g a = 47) ∧ ∃ s, PL g d 3 k (a + 1) = some s ∧ ((s.2.1 = -1 ∧ ∃ t, PL g d 5 k s.1 = some t ∧ r = (t.1, t.2.1, s.2.2 ++ [2000 + g a] ++ t.2.2)) ∨ (¬ s.2.1 = -1 ∧ r = s))) ∨ (¬ (g a = 42 ∨ g a = 47) ∧ r = (a, -1, [])) := by
  have h : (if g a = 42 ∨ g a = 47 then (PL g d 3 k (a + 1)).bind fun s => if s.2.1 = -1 then (PL g d 5 k s.1).bind fun t => some (t.1, t.2.1, s.2.2 ++ [2000 + g a] ++ t.2.2) else some s else some (a, -1, [])) = some r := h
  by_cases c : g a = 42 ∨ g a = 47
  · rw [if_pos c] at h
    obtain ⟨s, e, h⟩ := ob h
    refine Or.inl ⟨c, s, e, ?_⟩
    by_cases c2 : s.2.1 = -1
    · rw [if_pos c2] at h
      obtain ⟨t, e', h⟩ := ob h
      cases h
      exact Or.inl ⟨c2, t, e', rfl⟩
    · rw [if_neg c2] at h
      cases h
      exact Or.inr ⟨c2, rfl⟩
  · rw [if_neg c] at h
    cases h
    exact Or.inr ⟨c, rfl⟩
theorem PL_i6 {g : Int → Int} {d k : Nat} {a : Int} {r : Int × Int × List Int} (h : PL g (d + 1) 6 k a = some r) : ((48 ≤ g a ∧ g a ≤ 57) ∧ r = (a + n3 g a, -1, [nvd g a (n3 g a)])) ∨ (¬ (48 ≤ g a ∧ g a ≤ 57) ∧ 0 ≤ lix (g a) ∧ r = (a + 1, -1, [1000 + lix (g a)])) ∨ (¬ (48 ≤ g a ∧ g a ≤ 57) ∧ ¬ 0 ≤ lix (g a) ∧ (g a = 40 ∧ k < 4) ∧ ∃ s, PL g d 0 (k + 1) (a + 1) = some s ∧ ((s.2.1 = -1 ∧ g s.1 = 41 ∧ r = (s.1 + 1, -1, s.2.2)) ∨ (s.2.1 = -1 ∧ ¬ g s.1 = 41 ∧ r = (s.1, s.1, [])) ∨ (¬ s.2.1 = -1 ∧ r = s))) ∨ (¬ (48 ≤ g a ∧ g a ≤ 57) ∧ ¬ 0 ≤ lix (g a) ∧ ¬ (g a = 40 ∧ k < 4) ∧ r = (a, a, [])) := by
  have h : (if 48 ≤ g a ∧ g a ≤ 57 then some (a + n3 g a, -1, [nvd g a (n3 g a)]) else if 0 ≤ lix (g a) then some (a + 1, -1, [1000 + lix (g a)]) else if g a = 40 ∧ k < 4 then (PL g d 0 (k + 1) (a + 1)).bind fun s => if s.2.1 = -1 then (if g s.1 = 41 then some (s.1 + 1, -1, s.2.2) else some (s.1, s.1, [])) else some s else some (a, a, [])) = some r := h
  by_cases c : 48 ≤ g a ∧ g a ≤ 57
  · rw [if_pos c] at h; cases h; exact Or.inl ⟨c, rfl⟩
  rw [if_neg c] at h
  by_cases c1 : 0 ≤ lix (g a)
  · rw [if_pos c1] at h; cases h; exact Or.inr (Or.inl ⟨c, c1, rfl⟩)
  rw [if_neg c1] at h
  by_cases c2 : g a = 40 ∧ k < 4
  · rw [if_pos c2] at h
    obtain ⟨s, e, h⟩ := ob h
    refine Or.inr (Or.inr (Or.inl ⟨c, c1, c2, s, e, ?_⟩))
    by_cases c3 : s.2.1 = -1
    · rw [if_pos c3] at h
      by_cases c4 : g s.1 = 41
      · rw [if_pos c4] at h; cases h; exact Or.inl ⟨c3, c4, rfl⟩
      · rw [if_neg c4] at h; cases h; exact Or.inr (Or.inl ⟨c3, c4, rfl⟩)
    · rw [if_neg c3] at h; cases h; exact Or.inr (Or.inr ⟨c3, rfl⟩)
  · rw [if_neg c2] at h; cases h; exact Or.inr (Or.inr (Or.inr ⟨c, c1, c2, rfl⟩))
theorem lix_rng (x : Int) : -1 ≤ lix x ∧ lix x ≤ 6 := by
  unfold lix
  (repeat' split) <;> decide
theorem lix_0 {x : Int} (h : 0 ≤ lix x) : 97 ≤ x ∧ x ≤ 122 := by
  refine ⟨?_, ?_⟩
  · refine Int.not_lt.mp (fun q => ?_)
    rw [lix_off (Or.inl q)] at h
    omega
  · refine Int.not_lt.mp (fun q => ?_)
    rw [lix_off (Or.inr q)] at h
    omega
theorem n3_pos {g : Int → Int} {a : Int} (h : 48 ≤ g a ∧ g a ≤ 57) : 1 ≤ n3 g a ∧ n3 g a ≤ 3 := by
  refine ⟨?_, n3_is.1⟩
  unfold n3
  rw [if_pos h]
  split
  · split <;> omega
  · omega
theorem n3_lim {g : Int → Int} {lim a : Int} (hg : ∀ x, lim ≤ x → g x = -1) (h : a ≤ lim) : a + n3 g a ≤ lim := by
  have n := n3_is (g := g) (a := a)
  by_cases c : n3 g a = 0
  · rw [c]; omega
  · have h9 := n.2 (n3 g a - 1) (by omega)
    refine Int.not_lt.mp (fun q => ?_)
    rw [hg _ (show lim ≤ a + ((n3 g a - 1 : Nat) : Int) by omega)] at h9
    omega
def pl7 (w : Nat) : Int := if w = 7 then 1 else 0
/-- where a part stops, and how much it tells -/
def PLo (w : Nat) (lim a : Int) (r : Int × Int × List Int) : Prop := a ≤ r.1 ∧ r.1 ≤ lim ∧ (r.2.1 = -1 ∨ r.2.1 = r.1) ∧ (r.2.1 = -1 → (w ≠ 4 → w ≠ 5 → a + 1 ≤ r.1) ∧ (r.2.2.length : Int) + a ≤ r.1 + pl7 w)
set_option maxHeartbeats 2000000 in
theorem PL_ok {g : Int → Int} {lim : Int} (hg : ∀ x, lim ≤ x → g x = -1) : ∀ (d w k : Nat) (a : Int) (r : Int × Int × List Int), w < 8 → 0 ≤ a → a ≤ lim → PL g d w k a = some r → PLo w lim a r := by
  intro d
  induction d with
  | zero => intro w k a r hw h0 h1 h; cases h
  | succ d ih =>
    intro w k a r hw h0 h1 h
    have lt : ∀ x, g x ≠ -1 → x + 1 ≤ lim := fun x q => Int.not_lt.mp (fun q2 => q (hg x (by omega)))
    match w, hw with
    | 0, _ =>
      obtain ⟨s, e, h⟩ := PL_i0 h
      obtain ⟨s1, s2, s3, s4⟩ := ih 1 k a s (by omega) h0 h1 e
      rcases h with ⟨c, c2, t, e', rfl⟩ | ⟨c, rfl⟩
      · obtain ⟨t1, t2, t3, t4⟩ := ih 1 k (s.1 + 1) t (by omega) (by omega) (lt s.1 (by omega)) e'
        have s4 := s4 c
        refine ⟨by show a ≤ t.1; omega, t2, t3, fun q => ⟨fun _ _ => by show a + 1 ≤ t.1; omega, ?_⟩⟩
        have t4 := t4 q
        show (((s.2.2 ++ t.2.2 ++ [2000 + g s.1]).length : Nat) : Int) + a ≤ t.1 + 0
        rw [List.length_append, List.length_append, show [2000 + g s.1].length = 1 from rfl]
        have z4 : (s.2.2.length : Int) + a ≤ s.1 + 0 := s4.2
        have z5 : (t.2.2.length : Int) + (s.1 + 1) ≤ t.1 + 0 := t4.2
        omega
      · exact ⟨s1, s2, s3, fun q => ⟨fun _ _ => (s4 q).1 (by omega) (by omega), (s4 q).2⟩⟩
    | 1, _ =>
      obtain ⟨s, e, h⟩ := PL_i1 h
      obtain ⟨s1, s2, s3, s4⟩ := ih 2 k a s (by omega) h0 h1 e
      rcases h with ⟨c, t, e', rfl⟩ | ⟨c, rfl⟩
      · obtain ⟨t1, t2, t3, t4⟩ := ih 4 k s.1 t (by omega) (by omega) s2 e'
        have s4 := s4 c
        have s5 := s4.1 (by omega) (by omega)
        refine ⟨by show a ≤ t.1; omega, t2, t3, fun q => ⟨fun _ _ => by show a + 1 ≤ t.1; omega, ?_⟩⟩
        have t4 := t4 q
        show (((s.2.2 ++ t.2.2).length : Nat) : Int) + a ≤ t.1 + 0
        rw [List.length_append]
        have z4 : (s.2.2.length : Int) + a ≤ s.1 + 0 := s4.2
        have z5 : (t.2.2.length : Int) + s.1 ≤ t.1 + 0 := t4.2
        omega
      · exact ⟨s1, s2, s3, fun q => absurd q c⟩
    | 2, _ =>
      obtain ⟨s, e, h⟩ := PL_i2 h
      obtain ⟨s1, s2, s3, s4⟩ := ih 3 k a s (by omega) h0 h1 e
      rcases h with ⟨c, t, e', rfl⟩ | ⟨c, rfl⟩
      · obtain ⟨t1, t2, t3, t4⟩ := ih 5 k s.1 t (by omega) (by omega) s2 e'
        have s4 := s4 c
        have s5 := s4.1 (by omega) (by omega)
        refine ⟨by show a ≤ t.1; omega, t2, t3, fun q => ⟨fun _ _ => by show a + 1 ≤ t.1; omega, ?_⟩⟩
        have t4 := t4 q
        show (((s.2.2 ++ t.2.2).length : Nat) : Int) + a ≤ t.1 + 0
        rw [List.length_append]
        have z4 : (s.2.2.length : Int) + a ≤ s.1 + 0 := s4.2
        have z5 : (t.2.2.length : Int) + s.1 ≤ t.1 + 0 := t4.2
        omega
      · exact ⟨s1, s2, s3, fun q => absurd q c⟩
    | 3, _ =>
      rcases PL_i3 h with ⟨c, h⟩ | ⟨c, h⟩
      · obtain ⟨s1, s2, s3, s4⟩ := ih 7 k (a + 1) r (by omega) (by omega) (lt a (by omega)) h
        refine ⟨by omega, s2, s3, fun q => ⟨fun _ _ => by omega, ?_⟩⟩
        have z4 : (r.2.2.length : Int) + (a + 1) ≤ r.1 + 1 := (s4 q).2
        show (r.2.2.length : Int) + a ≤ r.1 + 0
        omega
      · obtain ⟨s1, s2, s3, s4⟩ := ih 6 k a r (by omega) h0 h1 h
        exact ⟨s1, s2, s3, fun q => ⟨fun _ _ => (s4 q).1 (by omega) (by omega), (s4 q).2⟩⟩
    | 4, _ =>
      rcases PL_i4 h with ⟨c, s, e, h⟩ | ⟨c, rfl⟩
      · have la := lt a (by omega)
        obtain ⟨s1, s2, s3, s4⟩ := ih 2 k (a + 1) s (by omega) (by omega) la e
        rcases h with ⟨c, t, e', rfl⟩ | ⟨c, rfl⟩
        · obtain ⟨t1, t2, t3, t4⟩ := ih 4 k s.1 t (by omega) (by omega) s2 e'
          have s4 := s4 c
          refine ⟨by show a ≤ t.1; omega, t2, t3, fun q => ⟨fun q2 => absurd rfl q2, ?_⟩⟩
          have t4 := t4 q
          show (((s.2.2 ++ [2000 + g a] ++ t.2.2).length : Nat) : Int) + a ≤ t.1 + 0
          rw [List.length_append, List.length_append, show [2000 + g a].length = 1 from rfl]
          have z4 : (s.2.2.length : Int) + (a + 1) ≤ s.1 + 0 := s4.2
          have z5 : (t.2.2.length : Int) + s.1 ≤ t.1 + 0 := t4.2
          omega
        · exact ⟨by omega, s2, s3, fun q => absurd q c⟩
      · exact ⟨by show a ≤ a; omega, h1, Or.inl rfl, fun q => ⟨fun q2 => absurd rfl q2, by show ((0 : Nat) : Int) + a ≤ a + 0; omega⟩⟩
    | 5, _ =>
      rcases PL_i5 h with ⟨c, s, e, h⟩ | ⟨c, rfl⟩
      · have la := lt a (by omega)
        obtain ⟨s1, s2, s3, s4⟩ := ih 3 k (a + 1) s (by omega) (by omega) la e
        rcases h with ⟨c, t, e', rfl⟩ | ⟨c, rfl⟩
        · obtain ⟨t1, t2, t3, t4⟩ := ih 5 k s.1 t (by omega) (by omega) s2 e'
          have s4 := s4 c
          refine ⟨by show a ≤ t.1; omega, t2, t3, fun q => ⟨fun _ q2 => absurd rfl q2, ?_⟩⟩
          have t4 := t4 q
          show (((s.2.2 ++ [2000 + g a] ++ t.2.2).length : Nat) : Int) + a ≤ t.1 + 0
          rw [List.length_append, List.length_append, show [2000 + g a].length = 1 from rfl]
          have z4 : (s.2.2.length : Int) + (a + 1) ≤ s.1 + 0 := s4.2
          have z5 : (t.2.2.length : Int) + s.1 ≤ t.1 + 0 := t4.2
          omega
        · exact ⟨by omega, s2, s3, fun q => absurd q c⟩
      · exact ⟨by show a ≤ a; omega, h1, Or.inl rfl, fun q => ⟨fun _ q2 => absurd rfl q2, by show ((0 : Nat) : Int) + a ≤ a + 0; omega⟩⟩
    | 6, _ =>
      rcases PL_i6 h with ⟨c, rfl⟩ | ⟨c, c1, rfl⟩ | ⟨c, c1, c2, s, e, h⟩ | ⟨c, c1, c2, rfl⟩
      · have np := n3_pos c
        have nl := n3_lim hg h1
        exact ⟨by show a ≤ a + n3 g a; omega, nl, Or.inl rfl, fun _ => ⟨fun _ _ => by show a + 1 ≤ a + n3 g a; omega, by show ((1 : Nat) : Int) + a ≤ a + n3 g a + 0; omega⟩⟩
      · have := lix_0 c1
        have la := lt a (by omega)
        exact ⟨by show a ≤ a + 1; omega, la, Or.inl rfl, fun _ => ⟨fun _ _ => by show a + 1 ≤ a + 1; omega, by show ((1 : Nat) : Int) + a ≤ a + 1 + 0; omega⟩⟩
      · have la := lt a (by omega)
        obtain ⟨s1, s2, s3, s4⟩ := ih 0 (k + 1) (a + 1) s (by omega) (by omega) la e
        rcases h with ⟨c3, c4, rfl⟩ | ⟨c3, c4, rfl⟩ | ⟨c3, rfl⟩
        · have ls := lt s.1 (by omega)
          have z4 : (s.2.2.length : Int) + (a + 1) ≤ s.1 + 0 := (s4 c3).2
          exact ⟨by show a ≤ s.1 + 1; omega, ls, Or.inl rfl, fun _ => ⟨fun _ _ => by show a + 1 ≤ s.1 + 1; omega, by show (s.2.2.length : Int) + a ≤ s.1 + 1 + 0; omega⟩⟩
        · exact ⟨by show a ≤ s.1; omega, s2, Or.inr rfl, fun q => by
            have q : s.1 = -1 := q
            omega⟩
        · exact ⟨by omega, s2, s3, fun q => absurd q c3⟩
      · exact ⟨by show a ≤ a; omega, h1, Or.inr rfl, fun q => by
          have q : a = -1 := q
          omega⟩
    | 7, _ =>
      rcases PL_i7 h with ⟨c, h⟩ | ⟨c, s, e, rfl⟩
      · obtain ⟨s1, s2, s3, s4⟩ := ih 3 k (a + 1) r (by omega) (by omega) (lt a (by omega)) h
        refine ⟨by omega, s2, s3, fun q => ⟨fun _ _ => by omega, ?_⟩⟩
        have z4 : (r.2.2.length : Int) + (a + 1) ≤ r.1 + 0 := (s4 q).2
        show (r.2.2.length : Int) + a ≤ r.1 + 1
        omega
      · obtain ⟨s1, s2, s3, s4⟩ := ih 6 k a s (by omega) h0 h1 e
        refine ⟨s1, s2, s3, fun q => ⟨fun _ _ => (s4 q).1 (by omega) (by omega), ?_⟩⟩
        show (((s.2.2 ++ [2000]).length : Nat) : Int) + a ≤ s.1 + 1
        rw [List.length_append, show [(2000 : Int)].length = 1 from rfl]
        have z4 : (s.2.2.length : Int) + a ≤ s.1 + 0 := (s4 q).2
        omega
def rkP (w : Nat) : Int := if w = 0 then 4 else if w = 1 then 3 else if w = 2 then 2 else if w = 3 ∨ w = 7 then 1 else 0
theorem sb {α β : Type} {o : Option α} {f : α → Option β} (h : ∃ a, o = some a) (g : ∀ a, o = some a → ∃ b, f a = some b) : ∃ b, o.bind f = some b := by
  obtain ⟨a, e⟩ := h
  obtain ⟨b, e'⟩ := g a e
  exact ⟨b, by rw [e]; exact e'⟩
set_option maxHeartbeats 2000000 in
/-- it is read to its end -/
theorem PL_tot {g : Int → Int} {lim : Int} (hg : ∀ x, lim ≤ x → g x = -1) : ∀ (d w k : Nat) (a : Int), w < 8 → 0 ≤ a → a ≤ lim → 6 * (lim - a) + rkP w < (d : Int) → ∃ r, PL g d w k a = some r := by
  intro d
  induction d with
  | zero =>
    intro w k a hw h0 h1 h
    have : 0 ≤ rkP w := by unfold rkP; (repeat' split) <;> decide
    omega
  | succ d ih =>
    intro w k a hw h0 h1 h
    have lt : ∀ x, g x ≠ -1 → x + 1 ≤ lim := fun x q => Int.not_lt.mp (fun q2 => q (hg x (by omega)))
    match w, hw with
    | 0, _ =>
      have h : 6 * (lim - a) + 4 < ((d + 1 : Nat) : Int) := h
      refine sb (ih 1 k a (by omega) h0 h1 (by show 6 * (lim - a) + 3 < (d : Int); omega)) (fun s e => ?_)
      obtain ⟨s1, s2, s3, s4⟩ := PL_ok hg d 1 k a s (by omega) h0 h1 e
      by_cases c : s.2.1 = -1 ∧ (g s.1 = 60 ∨ g s.1 = 62 ∨ g s.1 = 61)
      · rw [if_pos c]
        have s5 := (s4 c.1).1 (by omega) (by omega)
        exact sb (ih 1 k (s.1 + 1) (by omega) (by omega) (lt s.1 (by omega)) (by show 6 * (lim - (s.1 + 1)) + 3 < (d : Int); omega)) (fun t _ => ⟨_, rfl⟩)
      · rw [if_neg c]; exact ⟨_, rfl⟩
    | 1, _ =>
      have h : 6 * (lim - a) + 3 < ((d + 1 : Nat) : Int) := h
      refine sb (ih 2 k a (by omega) h0 h1 (by show 6 * (lim - a) + 2 < (d : Int); omega)) (fun s e => ?_)
      obtain ⟨s1, s2, s3, s4⟩ := PL_ok hg d 2 k a s (by omega) h0 h1 e
      by_cases c : s.2.1 = -1
      · rw [if_pos c]
        have s5 := (s4 c).1 (by omega) (by omega)
        exact sb (ih 4 k s.1 (by omega) (by omega) s2 (by show 6 * (lim - s.1) + 0 < (d : Int); omega)) (fun t _ => ⟨_, rfl⟩)
      · rw [if_neg c]; exact ⟨_, rfl⟩
    | 2, _ =>
      have h : 6 * (lim - a) + 2 < ((d + 1 : Nat) : Int) := h
      refine sb (ih 3 k a (by omega) h0 h1 (by show 6 * (lim - a) + 1 < (d : Int); omega)) (fun s e => ?_)
      obtain ⟨s1, s2, s3, s4⟩ := PL_ok hg d 3 k a s (by omega) h0 h1 e
      by_cases c : s.2.1 = -1
      · rw [if_pos c]
        have s5 := (s4 c).1 (by omega) (by omega)
        exact sb (ih 5 k s.1 (by omega) (by omega) s2 (by show 6 * (lim - s.1) + 0 < (d : Int); omega)) (fun t _ => ⟨_, rfl⟩)
      · rw [if_neg c]; exact ⟨_, rfl⟩
    | 3, _ =>
      have h : 6 * (lim - a) + 1 < ((d + 1 : Nat) : Int) := h
      show ∃ r, (if g a = 45 then PL g d 7 k (a + 1) else PL g d 6 k a) = some r
      by_cases c : g a = 45
      · rw [if_pos c]
        exact ih 7 k (a + 1) (by omega) (by omega) (lt a (by omega)) (by show 6 * (lim - (a + 1)) + 1 < (d : Int); omega)
      · rw [if_neg c]
        exact ih 6 k a (by omega) h0 h1 (by show 6 * (lim - a) + 0 < (d : Int); omega)
    | 4, _ =>
      have h : 6 * (lim - a) + 0 < ((d + 1 : Nat) : Int) := h
      show ∃ r, (if g a = 43 ∨ g a = 45 then (PL g d 2 k (a + 1)).bind fun s => if s.2.1 = -1 then (PL g d 4 k s.1).bind fun t => some (t.1, t.2.1, s.2.2 ++ [2000 + g a] ++ t.2.2) else some s else some (a, -1, [])) = some r
      by_cases c : g a = 43 ∨ g a = 45
      · rw [if_pos c]
        have la := lt a (by omega)
        refine sb (ih 2 k (a + 1) (by omega) (by omega) la (by show 6 * (lim - (a + 1)) + 2 < (d : Int); omega)) (fun s e => ?_)
        obtain ⟨s1, s2, s3, s4⟩ := PL_ok hg d 2 k (a + 1) s (by omega) (by omega) la e
        by_cases c : s.2.1 = -1
        · rw [if_pos c]
          exact sb (ih 4 k s.1 (by omega) (by omega) s2 (by show 6 * (lim - s.1) + 0 < (d : Int); omega)) (fun t _ => ⟨_, rfl⟩)
        · rw [if_neg c]; exact ⟨_, rfl⟩
      · rw [if_neg c]; exact ⟨_, rfl⟩
    | 5, _ =>
      have h : 6 * (lim - a) + 0 < ((d + 1 : Nat) : Int) := h
      show ∃ r, (if g a = 42 ∨ g a = 47 then (PL g d 3 k (a + 1)).bind fun s => if s.2.1 = -1 then (PL g d 5 k s.1).bind fun t => some (t.1, t.2.1, s.2.2 ++ [2000 + g a] ++ t.2.2) else some s else some (a, -1, [])) = some r
      by_cases c : g a = 42 ∨ g a = 47
      · rw [if_pos c]
        have la := lt a (by omega)
        refine sb (ih 3 k (a + 1) (by omega) (by omega) la (by show 6 * (lim - (a + 1)) + 1 < (d : Int); omega)) (fun s e => ?_)
        obtain ⟨s1, s2, s3, s4⟩ := PL_ok hg d 3 k (a + 1) s (by omega) (by omega) la e
        by_cases c : s.2.1 = -1
        · rw [if_pos c]
          exact sb (ih 5 k s.1 (by omega) (by omega) s2 (by show 6 * (lim - s.1) + 0 < (d : Int); omega)) (fun t _ => ⟨_, rfl⟩)
        · rw [if_neg c]; exact ⟨_, rfl⟩
      · rw [if_neg c]; exact ⟨_, rfl⟩
    | 6, _ =>
      have h : 6 * (lim - a) + 0 < ((d + 1 : Nat) : Int) := h
      show ∃ r, (if 48 ≤ g a ∧ g a ≤ 57 then some (a + n3 g a, -1, [nvd g a (n3 g a)]) else if 0 ≤ lix (g a) then some (a + 1, -1, [1000 + lix (g a)]) else if g a = 40 ∧ k < 4 then (PL g d 0 (k + 1) (a + 1)).bind fun s => if s.2.1 = -1 then (if g s.1 = 41 then some (s.1 + 1, -1, s.2.2) else some (s.1, s.1, [])) else some s else some (a, a, [])) = some r
      by_cases c : 48 ≤ g a ∧ g a ≤ 57
      · rw [if_pos c]; exact ⟨_, rfl⟩
      rw [if_neg c]
      by_cases c1 : 0 ≤ lix (g a)
      · rw [if_pos c1]; exact ⟨_, rfl⟩
      rw [if_neg c1]
      by_cases c2 : g a = 40 ∧ k < 4
      · rw [if_pos c2]
        refine sb (ih 0 (k + 1) (a + 1) (by omega) (by omega) (lt a (by omega)) (by show 6 * (lim - (a + 1)) + 4 < (d : Int); omega)) (fun s e => ?_)
        by_cases c3 : s.2.1 = -1
        · rw [if_pos c3]
          by_cases c4 : g s.1 = 41
          · rw [if_pos c4]; exact ⟨_, rfl⟩
          · rw [if_neg c4]; exact ⟨_, rfl⟩
        · rw [if_neg c3]; exact ⟨_, rfl⟩
      · rw [if_neg c2]; exact ⟨_, rfl⟩
    | 7, _ =>
      have h : 6 * (lim - a) + 1 < ((d + 1 : Nat) : Int) := h
      show ∃ r, (if g a = 45 then PL g d 3 k (a + 1) else (PL g d 6 k a).bind fun s => some (s.1, s.2.1, s.2.2 ++ [2000])) = some r
      by_cases c : g a = 45
      · rw [if_pos c]
        exact ih 3 k (a + 1) (by omega) (by omega) (lt a (by omega)) (by show 6 * (lim - (a + 1)) + 1 < (d : Int); omega)
      · rw [if_neg c]
        exact sb (ih 6 k a (by omega) h0 h1 (by show 6 * (lim - a) + 0 < (d : Int); omega)) (fun s _ => ⟨_, rfl⟩)
/-- what law() answers to a text of s signs (of a LAW that there is) -/
noncomputable def lwR (f : Nat → Int32) (s : Int) : Int × Int × List Int := (PL (GS f (min s 40)) 300 0 0 0).getD (0, 0, [])
noncomputable def lwA (f : Nat → Int32) (s : Int) : Int := if s ≤ 0 then 0 else if (lwR f s).2.1 = -1 then (if (lwR f s).1 < s then -1 - (lwR f s).1 else 0) else -1 - (lwR f s).2.1
theorem lwR_is {f : Nat → Int32} {s : Int} (h0 : 0 ≤ s) : PL (GS f (min s 40)) 300 0 0 0 = some (lwR f s) ∧ PLo 0 (min s 40) 0 (lwR f s) := by
  have hg : ∀ x, min s 40 ≤ x → GS f (min s 40) x = -1 := fun x hx => GS_out hx
  obtain ⟨r, e⟩ := PL_tot hg 300 0 0 0 (by omega) (by omega) (by omega) (by show 6 * (min s 40 - 0) + 4 < ((300 : Nat) : Int); omega)
  have e2 : lwR f s = r := by unfold lwR; rw [e]; rfl
  rw [e2]
  exact ⟨e, PL_ok hg 300 0 0 0 r (by omega) (by omega) (by omega) e⟩
theorem GSx {f : Nat → Int32} {lim : Int} : ∀ x, lim ≤ x → GS f lim x = -1 := fun _ hx => GS_out hx
theorem GSlt {f : Nat → Int32} {lim x : Int} (h : GS f lim x ≠ -1) : x + 1 ≤ lim := Int.not_lt.mp (fun q => h (GS_out (by omega)))
theorem u16_id {x : Int32} {v : Int} (h : x.toInt = v) (h0 : 0 ≤ v) (h1 : v ≤ 255) : ((x.toUInt32 % 65536).toInt32) = x := by
  have hx : x.toBitVec.toNat = v.toNat := by
    have h2 : x.toInt = x.toBitVec.toInt := rfl
    have hl := x.toBitVec.isLt
    rw [h2, BitVec.toInt_eq_toNat_cond] at h
    split at h <;> omega
  have e : x.toUInt32 % 65536 = x.toUInt32 := by
    apply UInt32.toNat_inj.mp
    rw [UInt32.toNat_mod]
    have : x.toUInt32.toNat = x.toBitVec.toNat := rfl
    rw [this, hx, show (65536 : UInt32).toNat = 65536 from rfl]
    omega
  rw [e]
  rfl
end
section
/-! ===== the class reads a LAW ===== -/
def TLw (Z : jZ) (I0 : jI) (v0 v1 uB uD : Nat) (lim : Int) : Prop := WD Z I0 ∧ jk Z v0 3 ∧ jk Z v1 10 ∧ jr Z v1 0 = some uB ∧ jk Z uB 13 ∧ (0 ≤ lim ∧ lim ≤ (I0 v1 1).toInt ∧ (I0 v1 1).toInt ≤ 80 ∧ lim ≤ 40) ∧ BY (I0 uB) ∧ jr Z v0 1 = some uD ∧ jk Z uD 14
/-- the reader at place a, fault F, c told -/
def LSw (Z : jZ) (I0 : jI) (v0 uD : Nat) (lim : Int) (I : jI) (a F : Int) (c : List Int) : Prop := WD Z I ∧ FR Ws_R3 Z I0 Z I ∧ (I v0 6).toInt = a ∧ (I v0 8).toInt = F ∧ (I v0 7).toInt = lim ∧ (F = -1 → (I v0 5).toInt = (c.length : Int) ∧ ∀ i : Nat, i < c.length → c[i]? = some (I uD i).toInt) ∧ (∀ b, b ≠ v0 → b ≠ uD → I b = I0 b)
theorem LSw_txt {Z : jZ} {I0 I : jI} {v0 v1 uB uD : Nat} {lim a F : Int} {c : List Int} (t : TLw Z I0 v0 v1 uB uD lim) (s : LSw Z I0 v0 uD lim I a F c) : I v1 1 = I0 v1 1 ∧ I uB = I0 uB := by
  obtain ⟨w0, k0, k1, hB, kB, -⟩ := t
  exact ⟨s.2.1.2.2.1 v1 10 1 k1 (by decide) (by decide), s.2.1.2.2.2 v1 10 0 uB k1 hB (by rw [kB.2]; rfl) rfl (by decide)⟩
theorem LSw_at {Z : jZ} {I0 I : jI} {v0 v1 uB uD : Nat} {lim a F : Int} {c : List Int} (t : TLw Z I0 v0 v1 uB uD lim) (s : LSw Z I0 v0 uD lim I a F c) (h0 : 0 ≤ a ∧ a ≤ 100) : LSw Z I0 v0 uD lim (jpI I v0 6 ((I v0 6) + (1 : Int32))) (a + 1) F c := by
  obtain ⟨w0, k0, k1, hB, kB, hl, hb, hD, kD⟩ := t
  have nD : uD ≠ v0 := ks_ne kD k0 (by decide)
  refine ⟨WD_putF s.1 3 6 k0 (by decide) (by decide) trivial, s.2.1.trans w0.1 w0.2.1 (FR_putF k0 (by decide) (by decide)), ?_, ?_, ?_, fun q => ?_, fun b h1 h2 => (jpI_ne h1).trans (s.2.2.2.2.2.2 b h1 h2)⟩
  · rw [jpI_at]; exact i_add s.2.2.1 (show (1 : Int32).toInt = 1 from rfl) (by omega) (by omega)
  · rw [jpI_o (by decide)]; exact s.2.2.2.1
  · rw [jpI_o (by decide)]; exact s.2.2.2.2.1
  · obtain ⟨q1, q2⟩ := s.2.2.2.2.2.1 q
    refine ⟨by rw [jpI_o (by decide)]; exact q1, fun i hi => ?_⟩
    rw [jpI_ne nD]
    exact q2 i hi
/-- a fault is told -/
theorem LSw_flt {Z : jZ} {I0 I : jI} {v0 v1 uB uD : Nat} {lim a F : Int} {c c' : List Int} {y : Int32} (t : TLw Z I0 v0 v1 uB uD lim) (s : LSw Z I0 v0 uD lim I a F c) (hy : 0 ≤ y.toInt) : LSw Z I0 v0 uD lim (jpI I v0 8 y) a y.toInt c' := by
  obtain ⟨w0, k0, k1, hB, kB, hl, hb, hD, kD⟩ := t
  refine ⟨WD_putF s.1 3 8 k0 (by decide) (by decide) trivial, s.2.1.trans w0.1 w0.2.1 (FR_putF k0 (by decide) (by decide)), ?_, ?_, ?_, fun q => by omega, fun b h1 h2 => (jpI_ne h1).trans (s.2.2.2.2.2.2 b h1 h2)⟩
  · rw [jpI_o (by decide)]; exact s.2.2.1
  · rw [jpI_at]
  · rw [jpI_o (by decide)]; exact s.2.2.2.2.1
theorem LSw_any {Z : jZ} {I0 I : jI} {v0 uD : Nat} {lim a F : Int} {c c' : List Int} (s : LSw Z I0 v0 uD lim I a F c) (h : F ≠ -1) : LSw Z I0 v0 uD lim I a F c' := ⟨s.1, s.2.1, s.2.2.1, s.2.2.2.1, s.2.2.2.2.1, fun q => absurd q h, s.2.2.2.2.2.2⟩
theorem l_look {Z : jZ} {I0 I : jI} {L : jL} {v0 v1 uB uD : Nat} {lim a F : Int} {c : List Int} {Q : Int32 → jI → jL → Prop} (t : TLw Z I0 v0 v1 uB uD lim) (s : LSw Z I0 v0 uD lim I a F c) (h0 : 0 ≤ a) (h : ∀ r : Int32, CLk (GS (I0 uB) lim a) r.toInt → -1 ≤ r.toInt → r.toInt ≤ 255 → Q r I L) : f_X3_look v0 v1 Z I L Q := by
  obtain ⟨e1, e2⟩ := LSw_txt t s
  obtain ⟨w0, k0, k1, hB, kB, hl, hb, hD, kD⟩ := t
  obtain ⟨w, f, sa, sF, sl, -⟩ := s
  unfold f_X3_look
  refine ⟨fun c => h _ ?_ (by decide) (by decide), fun c => ?_⟩
  · exact CLk_out ((i_le sl sa).mp c)
  have c := (not_congr (i_le sl sa)).mp c
  unfold f_X10_signAt
  refine ⟨fun c1 => ?_, fun c1 => ⟨fun c2 => ?_, fun c2 => ⟨fun c3 => ?_, fun c3 => ?_⟩⟩⟩
  · have := (i_lt sa (show (0 : Int32).toInt = 0 from rfl)).mp c1
    omega
  · rw [e1] at c2
    have := (i_le rfl sa).mp c2
    omega
  · have := (i_le (show (80 : Int32).toInt = 80 from rfl) sa).mp c3
    omega
  · intro b eb
    cases hB.symm.trans eb
    have e9 := i_and255 (x := I uB (I v0 6).toNatClampNeg)
    refine ⟨vi_of sa (by omega) (by omega), h _ ?_ (by omega) (by omega)⟩
    rw [e2]
    have := CLk_in (f := I0 uB) (lim := lim) (x := I v0 6) hb (by omega) (by omega)
    rw [sa] at this
    exact this
theorem l_ahead {Z : jZ} {I0 I : jI} {L : jL} {v0 v1 uB uD : Nat} {lim a F k2 k3 : Int} {c : List Int} {v2 v3 : Int32} {Q : Int32 → jI → jL → Prop} (t : TLw Z I0 v0 v1 uB uD lim) (s : LSw Z I0 v0 uD lim I a F c) (h0 : 0 ≤ a) (e2 : v2.toInt = k2) (e3 : v3.toInt = k3) (hk : (0 ≤ k2 ∧ k2 ≤ 127) ∧ 0 ≤ k3 ∧ k3 ≤ 127) (h1 : F = -1 → (GS (I0 uB) lim a = k2 ∨ GS (I0 uB) lim a = k3) → Q 1 I L) (h2 : (F ≠ -1 ∨ ¬ (GS (I0 uB) lim a = k2 ∨ GS (I0 uB) lim a = k3)) → Q 0 I L) : f_X3_isAhead v0 v1 v2 v3 Z I L Q := by
  unfold f_X3_isAhead
  refine l_look t s h0 (fun r hr r0 r1 => ⟨fun g => h2 (Or.inl ((not_congr (i_eq s.2.2.2.1 (show (-1 : Int32).toInt = -1 from rfl))).mp g)), fun g => ?_⟩)
  have g := (i_eq s.2.2.2.1 (show (-1 : Int32).toInt = -1 from rfl)).mp g
  unfold CLk at hr
  refine ⟨fun q => ?_, fun q => ⟨fun q2 => ?_, fun q2 => ?_⟩⟩
  · have q := (i_eq (x := r) rfl e2).mp q
    unfold f_X3_isAhead_b27
    exact h1 g (Or.inl (by omega))
  · have q := (not_congr (i_eq (x := r) rfl e2)).mp q
    have q2 := (not_congr (i_eq (x := r) rfl e3)).mp q2
    exact h2 (Or.inr (by omega))
  · have q2 := (i_eq (x := r) rfl e3).mp q2
    unfold f_X3_isAhead_b27
    exact h1 g (Or.inr (by omega))
theorem l_emit {Z : jZ} {I0 I : jI} {L : jL} {v0 v1 uB uD : Nat} {lim a : Int} {c : List Int} {x : Int32} {v : Int} {Q : jI → jL → Prop} (t : TLw Z I0 v0 v1 uB uD lim) (s : LSw Z I0 v0 uD lim I a (-1) c) (hc : c.length ≤ 39) (ex : x.toInt = v) (h : ∀ I', LSw Z I0 v0 uD lim I' a (-1) (c ++ [v]) → Q I' L) : f_X3_emit v0 x Z I L Q := by
  obtain ⟨w0, k0, k1, hB, kB, hl, hb, hD, kD⟩ := t
  obtain ⟨w, f, sa, sF, sl, sc, sx⟩ := s
  obtain ⟨q1, q2⟩ := sc rfl
  have nD : uD ≠ v0 := ks_ne kD k0 (by decide)
  unfold f_X3_emit
  refine ⟨fun g => absurd ((i_eq sF (show (-1 : Int32).toInt = -1 from rfl)).mpr rfl) g, fun _ => ⟨fun g => ?_, fun _ => ?_⟩⟩
  · have := (i_le (show (40 : Int32).toInt = 40 from rfl) q1).mp g
    omega
  intro b eb
  cases hD.symm.trans eb
  refine ⟨vi_of q1 (by omega) (by omega), ?_⟩
  intro I5 e5 I6 e6
  have n5 : (I v0 5).toNatClampNeg = c.length := by have := i_nat q1 (by omega); omega
  have y5 : I5 v0 = I v0 := by rw [e5]; exact jpI_ne (fun e => nD e.symm)
  have d5 : I5 uD = upd (I uD) c.length x := by rw [e5, n5]; exact va_up_self _ _ _
  have w5 : WD Z I5 := by rw [e5]; exact WD_putA w 3 1 k0 hD kD rfl rfl (by decide) trivial
  have f5 : FR Ws_R3 Z I0 Z I5 := f.trans w0.1 w0.2.1 (by rw [e5]; exact FR_upA w.2.1 k0 hD kD rfl rfl (by decide))
  have t6 : ((I5 v0 5) + (1 : Int32)).toInt = (c.length : Int) + 1 := i_add (by rw [y5]; exact q1) (show (1 : Int32).toInt = 1 from rfl) (by omega) (by omega)
  rw [e6]
  refine h _ ⟨WD_putF w5 3 5 k0 (by decide) (by decide) (show rg 0 40 _ from ⟨by rw [t6]; omega, by rw [t6]; omega⟩), f5.trans w0.1 w0.2.1 (FR_putF k0 (by decide) (by decide)), ?_, ?_, ?_, fun _ => ⟨?_, fun i hi => ?_⟩, fun b h1 h2 => ((jpI_ne h1).trans (by rw [e5]; exact jpI_ne h2)).trans (sx b h1 h2)⟩
  · rw [jpI_o (by decide), y5]; exact sa
  · rw [jpI_o (by decide), y5]; exact sF
  · rw [jpI_o (by decide), y5]; exact sl
  · rw [jpI_at, t6, List.length_append]; rfl
  · rw [List.length_append] at hi
    have hi : i < c.length + 1 := hi
    rw [jpI_ne nD, d5]
    by_cases ci : i = c.length
    · rw [ci, show upd (I uD) c.length x c.length = x from if_pos rfl, List.getElem?_append_right (Nat.le_refl _), Nat.sub_self, ex]
      rfl
    · rw [show upd (I uD) c.length x i = I uD i from if_neg ci, List.getElem?_append_left (by omega)]
      exact q2 i (by omega)
theorem l_emitD {Z : jZ} {I0 I : jI} {L : jL} {v0 uD : Nat} {lim a F : Int} {c : List Int} {x : Int32} {Q : jI → jL → Prop} (s : LSw Z I0 v0 uD lim I a F c) (hF : F ≠ -1) (h : Q I L) : f_X3_emit v0 x Z I L Q := by
  unfold f_X3_emit
  exact ⟨fun _ => h, fun g => absurd ((i_eq s.2.2.2.1 (show (-1 : Int32).toInt = -1 from rfl)).mp g) hF⟩
set_option maxHeartbeats 1000000 in
theorem l_num {Z : jZ} {I0 : jI} {L : jL} {v0 v1 uB uD : Nat} {lim a : Int} {c : List Int} {Q : jI → jL → Prop} (t : TLw Z I0 v0 v1 uB uD lim) (h0 : 0 ≤ a ∧ a ≤ 40) (hc : c.length ≤ 39) (h : ∀ I', LSw Z I0 v0 uD lim I' (a + n3 (GS (I0 uB) lim) a) (-1) (c ++ [nvd (GS (I0 uB) lim) a (n3 (GS (I0 uB) lim) a)]) → Q I' L) :
    ∀ (m : Nat) (v2 v3 : Int32) (d : Nat) (I : jI), LSw Z I0 v0 uD lim I (a + d) (-1) c → N3 (GS (I0 uB) lim) a d → v3.toInt = (d : Int) → v2.toInt = nvd (GS (I0 uB) lim) a d → 4 ≤ m + d → f_X3_readNumber_L4 Z Q m v0 v1 v2 v3 I L := by
  have fin : ∀ (v2 : Int32) (d : Nat) (I : jI), LSw Z I0 v0 uD lim I (a + d) (-1) c → v2.toInt = nvd (GS (I0 uB) lim) a d → n3 (GS (I0 uB) lim) a = d → f_X3_readNumber_b50 Z Q v0 v2 I L := by
    intro v2 d I s e2 en
    unfold f_X3_readNumber_b50
    rw [← en] at s e2
    exact l_emit t s hc e2 h
  intro m
  induction m with
  | zero => intro v2 v3 d I s hN e3 e2 hm; have := hN.1; omega
  | succ m ih =>
    intro v2 v3 d I s hN e3 e2 hm
    have hd := hN.1
    have hv := N3_val hN
    unfold f_X3_readNumber_L4
    refine ⟨fun g => ?_, fun g => ?_⟩
    · have g := (i_le (show (3 : Int32).toInt = 3 from rfl) e3).mp g
      exact fin v2 d I s e2 (N3_end hN (Or.inl (by omega)))
    have g := (not_congr (i_le (show (3 : Int32).toInt = 3 from rfl) e3)).mp g
    refine l_look t s (by omega) (fun r hr r0 r1 => ?_)
    unfold CLk at hr
    have stop : ¬ (48 ≤ GS (I0 uB) lim (a + d) ∧ GS (I0 uB) lim (a + d) ≤ 57) → f_X3_readNumber_b50 Z Q v0 v2 I L := fun hn => fin v2 d I s e2 (N3_end hN (Or.inr hn))
    unfold f_X10_isDigit
    refine ⟨fun c1 => ?_, fun c1 => ⟨fun c2 => ?_, fun c2 => ?_⟩⟩
    · have c1 := (i_lt (x := r) (y := 48) rfl (show (48 : Int32).toInt = 48 from rfl)).mp c1
      exact ⟨fun _ => stop (by omega), fun e => absurd rfl e⟩
    · have c2 := (i_lt (x := 57) (y := r) (show (57 : Int32).toInt = 57 from rfl) rfl).mp c2
      exact ⟨fun _ => stop (by omega), fun e => absurd rfl e⟩
    · have c1 := (not_congr (i_lt (x := r) (y := 48) rfl (show (48 : Int32).toInt = 48 from rfl))).mp c1
      have c2 := (not_congr (i_lt (x := 57) (y := r) (show (57 : Int32).toInt = 57 from rfl) rfl)).mp c2
      have hg : GS (I0 uB) lim (a + d) = r.toInt := by omega
      refine ⟨fun e => absurd e (by decide), fun _ => ?_⟩
      refine l_look t s (by omega) (fun r2 hr2 _ _ => ?_)
      unfold CLk at hr2
      have hg2 : r2.toInt = r.toInt := by omega
      intro x30 e30 I31 e31 x32 e32
      rw [e31]
      have d30 : x30.toInt = nvd (GS (I0 uB) lim) a (d + 1) := by
        show x30.toInt = nvd (GS (I0 uB) lim) a d * 10 + GS (I0 uB) lim (a + d) - 48
        rw [e30]
        exact (i_sub (i_add (i_mul e2 (show (10 : Int32).toInt = 10 from rfl) (by omega) (by omega)) hg2 (by omega) (by omega)) (show (48 : Int32).toInt = 48 from rfl) (by omega) (by omega)).trans (by omega)
      have d32 : x32.toInt = ((d + 1 : Nat) : Int) := by
        rw [e32]
        exact (i_add e3 (show (1 : Int32).toInt = 1 from rfl) (by omega) (by omega)).trans (by omega)
      have s2 := LSw_at t s (by omega)
      rw [show a + (d : Int) + 1 = a + ((d + 1 : Nat) : Int) by omega] at s2
      exact ih x30 x32 (d + 1) _ s2 (N3_step hN (by omega) (by omega)) d32 d30 (by omega)
theorem l_number {Z : jZ} {I0 I : jI} {L : jL} {v0 v1 uB uD : Nat} {lim a : Int} {c : List Int} {Q : jI → jL → Prop} (t : TLw Z I0 v0 v1 uB uD lim) (s : LSw Z I0 v0 uD lim I a (-1) c) (h0 : 0 ≤ a ∧ a ≤ 40) (hc : c.length ≤ 39) (h : ∀ I', LSw Z I0 v0 uD lim I' (a + n3 (GS (I0 uB) lim) a) (-1) (c ++ [nvd (GS (I0 uB) lim) a (n3 (GS (I0 uB) lim) a)]) → Q I' L) : f_X3_readNumber v0 v1 Z I L Q := by
  unfold f_X3_readNumber
  refine ⟨4, l_num t h0 hc h 4 0 0 0 I (by rw [show a + ((0 : Nat) : Int) = a by omega]; exact s) N3_0 rfl rfl (by omega)⟩
theorem l_closing {Z : jZ} {I0 I : jI} {L : jL} {v0 v1 uB uD : Nat} {lim a F : Int} {c c' : List Int} {Q : jI → jL → Prop} (t : TLw Z I0 v0 v1 uB uD lim) (s : LSw Z I0 v0 uD lim I a F c) (h0 : 0 ≤ a ∧ a ≤ 40) (h1 : F = -1 → GS (I0 uB) lim a = 41 → ∀ I', LSw Z I0 v0 uD lim I' (a + 1) (-1) c → Q I' L) (h2 : F = -1 → ¬ GS (I0 uB) lim a = 41 → ∀ I', LSw Z I0 v0 uD lim I' a a c' → Q I' L) (h3 : F ≠ -1 → Q I L) : f_X3_readClosing v0 v1 Z I L Q := by
  unfold f_X3_readClosing
  refine l_ahead (k2 := 41) (k3 := 41) t s h0.1 rfl rfl (by omega) (fun g1 g2 => ⟨fun e => absurd e (by decide), fun _ => ?_⟩) (fun g => ⟨fun _ => ⟨fun q => ?_, fun q => ?_⟩, fun e => absurd rfl e⟩)
  · intro I11 e11
    rw [e11]
    subst g1
    exact h1 rfl (by omega) _ (LSw_at t s (by omega))
  · exact h3 ((not_congr (i_eq s.2.2.2.1 (show (-1 : Int32).toInt = -1 from rfl))).mp q)
  · have q := (i_eq s.2.2.2.1 (show (-1 : Int32).toInt = -1 from rfl)).mp q
    intro I10 e10
    rw [e10]
    have s2 := LSw_flt (c' := c') (y := I v0 6) t s (by rw [s.2.2.1]; omega)
    rw [s.2.2.1] at s2
    exact h2 q (by omega) _ s2
/-- the loops stop at a fault -/
theorem l_sumF {Z : jZ} {I0 I : jI} {L : jL} {D : FTR3} {v0 v1 uB uD m : Nat} {lim a F : Int} {c : List Int} {v2 v3 : Int32} {Q : jI → jL → Prop} (t : TLw Z I0 v0 v1 uB uD lim) (s : LSw Z I0 v0 uD lim I a F c) (h0 : 0 ≤ a) (hF : F ≠ -1) (h : Q I L) : fs_X3_readSum_L8 D Z Q (m + 1) v0 v1 v2 v3 I L := by
  unfold fs_X3_readSum_L8
  exact ⟨fun _ => h, fun _ => l_ahead (k2 := 43) (k3 := 45) t s h0 rfl rfl (by omega) (fun g => absurd g hF) (fun _ => ⟨fun _ => h, fun e => absurd rfl e⟩)⟩
theorem l_prodF {Z : jZ} {I0 I : jI} {L : jL} {D : FTR3} {v0 v1 uB uD m : Nat} {lim a F : Int} {c : List Int} {v2 v3 : Int32} {Q : jI → jL → Prop} (t : TLw Z I0 v0 v1 uB uD lim) (s : LSw Z I0 v0 uD lim I a F c) (h0 : 0 ≤ a) (hF : F ≠ -1) (h : Q I L) : fs_X3_readProduct_L8 D Z Q (m + 1) v0 v1 v2 v3 I L := by
  unfold fs_X3_readProduct_L8
  exact ⟨fun _ => h, fun _ => l_ahead (k2 := 42) (k3 := 47) t s h0 rfl rfl (by omega) (fun g => absurd g hF) (fun _ => ⟨fun _ => h, fun e => absurd rfl e⟩)⟩
theorem l_op {x y : Int32} {v : Int} (hx : x.toInt = v) (h : 0 ≤ v ∧ v ≤ 255) : ((2000 : Int32) + x).toInt = 2000 + v := i_add (show (2000 : Int32).toInt = 2000 from rfl) hx (by omega) (by omega)
/-- what each part of the reader does, by what the text says -/
def LC1 (Z : jZ) (I0 : jI) (v0 v1 uB uD : Nat) (lim : Int) (d w cw : Nat) : Prop := ∀ (D k : Nat) (a : Int) (r : Int × Int × List Int) (c : List Int) (v2 : Int32) (I : jI) (L : jL) (Q : jI → jL → Prop), PL (GS (I0 uB) lim) d w k a = some r → LSw Z I0 v0 uD lim I a (-1) c → 0 ≤ a → a ≤ lim → (c.length : Int) ≤ a → v2.toInt = (k : Int) → k ≤ 4 → 25 ≤ 5 * k + cw + D → (∀ I', LSw Z I0 v0 uD lim I' r.1 r.2.1 (c ++ r.2.2) → Q I' L) → fR3 D cw v0 v1 v2 Z I L Q
def LC3 (Z : jZ) (I0 : jI) (v0 v1 uB uD : Nat) (lim : Int) (d w : Nat) (y : Int32) : Prop := ∀ (D k m : Nat) (a : Int) (r : Int × Int × List Int) (c : List Int) (v2 v4 : Int32) (I : jI) (L : jL) (Q : jI → jL → Prop), PL (GS (I0 uB) lim) d w k a = some r → LSw Z I0 v0 uD lim I a (-1) c → 0 ≤ a → a ≤ lim → (c.length : Int) + pl7 w ≤ a → v2.toInt = (k : Int) → k ≤ 4 → 21 ≤ 5 * k + D → 0 ≤ v4.toInt → v4.toInt ≤ a → lim - a < (m : Int) → (∀ I', LSw Z I0 v0 uD lim I' r.1 r.2.1 (c ++ r.2.2) → Q I' L) → fs_X3_readSigned_L5 (fR3 D) Z Q m v0 v1 v2 y v4 I L
def LC4 (Z : jZ) (I0 : jI) (v0 v1 uB uD : Nat) (lim : Int) (d : Nat) : Prop := ∀ (D k m : Nat) (a : Int) (r : Int × Int × List Int) (c : List Int) (v2 v3 : Int32) (I : jI) (L : jL) (Q : jI → jL → Prop), PL (GS (I0 uB) lim) d 4 k a = some r → LSw Z I0 v0 uD lim I a (-1) c → 0 ≤ a → a ≤ lim → (c.length : Int) ≤ a → v2.toInt = (k : Int) → k ≤ 4 → 23 ≤ 5 * k + D → 0 ≤ v3.toInt → v3.toInt ≤ a → lim - a < (m : Int) → (∀ I', LSw Z I0 v0 uD lim I' r.1 r.2.1 (c ++ r.2.2) → Q I' L) → fs_X3_readSum_L8 (fR3 D) Z Q m v0 v1 v2 v3 I L
def LC5 (Z : jZ) (I0 : jI) (v0 v1 uB uD : Nat) (lim : Int) (d : Nat) : Prop := ∀ (D k m : Nat) (a : Int) (r : Int × Int × List Int) (c : List Int) (v2 v3 : Int32) (I : jI) (L : jL) (Q : jI → jL → Prop), PL (GS (I0 uB) lim) d 5 k a = some r → LSw Z I0 v0 uD lim I a (-1) c → 0 ≤ a → a ≤ lim → (c.length : Int) ≤ a → v2.toInt = (k : Int) → k ≤ 4 → 22 ≤ 5 * k + D → 0 ≤ v3.toInt → v3.toInt ≤ a → lim - a < (m : Int) → (∀ I', LSw Z I0 v0 uD lim I' r.1 r.2.1 (c ++ r.2.2) → Q I' L) → fs_X3_readProduct_L8 (fR3 D) Z Q m v0 v1 v2 v3 I L
def LCa (Z : jZ) (I0 : jI) (v0 v1 uB uD : Nat) (lim : Int) (d : Nat) : Prop := LC1 Z I0 v0 v1 uB uD lim d 0 0 ∧ LC1 Z I0 v0 v1 uB uD lim d 1 1 ∧ LC1 Z I0 v0 v1 uB uD lim d 2 2 ∧ LC1 Z I0 v0 v1 uB uD lim d 3 3 ∧ LC1 Z I0 v0 v1 uB uD lim d 6 4 ∧ LC3 Z I0 v0 v1 uB uD lim d 3 0 ∧ LC3 Z I0 v0 v1 uB uD lim d 7 1 ∧ LC4 Z I0 v0 v1 uB uD lim d ∧ LC5 Z I0 v0 v1 uB uD lim d
theorem ap0 {c e : List Int} {x : Int} {l : List Int} : c ++ e ++ [x] ++ l = c ++ (e ++ [x] ++ l) := by rw [List.append_assoc, List.append_assoc, List.append_assoc]
set_option maxHeartbeats 4000000 in
theorem LC_ex {Z : jZ} {I0 : jI} {v0 v1 uB uD : Nat} {lim : Int} {d : Nat} (t : TLw Z I0 v0 v1 uB uD lim) (ih : LCa Z I0 v0 v1 uB uD lim d) : LC1 Z I0 v0 v1 uB uD lim (d + 1) 0 0 := by
  intro D k a r c v2 I L Q hp s h0 h1 hc ek hk hD hQ
  have hl := t.2.2.2.2.2.1
  obtain ⟨p, e, hp⟩ := PL_i0 hp
  obtain ⟨p1, p2, p3, p4⟩ := PL_ok GSx d 1 k a p (by omega) h0 h1 e
  cases D with
  | zero => omega
  | succ D =>
    show fs_X3_readExpression (fR3 D) v0 v1 v2 Z I L Q
    unfold fs_X3_readExpression
    refine ih.2.1 D k a p c v2 I L _ e s h0 h1 hc ek hk (by omega) (fun I1 s1 => ?_)
    have go : p.2.1 = -1 → ∀ t', PL (GS (I0 uB) lim) d 1 k (p.1 + 1) = some t' → r = (t'.1, t'.2.1, p.2.2 ++ t'.2.2 ++ [2000 + GS (I0 uB) lim p.1]) → (GS (I0 uB) lim p.1 = 60 ∨ GS (I0 uB) lim p.1 = 62 ∨ GS (I0 uB) lim p.1 = 61) → fs_X3_readExpression_b30 (fR3 D) Z Q v0 v1 v2 I1 L := by
      intro g t' e' hr hg
      have z4 : (p.2.2.length : Int) + a ≤ p.1 + 0 := (p4 g).2
      have l1 := GSlt (f := I0 uB) (lim := lim) (x := p.1) (by omega)
      obtain ⟨t1, t2, t3, t4⟩ := PL_ok GSx d 1 k (p.1 + 1) t' (by omega) (by omega) l1 e'
      unfold fs_X3_readExpression_b30
      refine l_look t s1 (by omega) (fun x hx x0 x1 => ?_)
      unfold CLk at hx
      intro I8 e8
      rw [e8]
      rw [g] at s1
      refine ih.2.1 D k (p.1 + 1) t' (c ++ p.2.2) v2 _ L _ e' (LSw_at t s1 (by omega)) (by omega) l1 (by rw [List.length_append]; omega) ek hk (by omega) (fun I11 s11 => ?_)
      by_cases g2 : t'.2.1 = -1
      · rw [g2] at s11
        have z5 : (t'.2.2.length : Int) + (p.1 + 1) ≤ t'.1 + 0 := (t4 g2).2
        refine l_emit t s11 (by rw [List.length_append, List.length_append]; omega) (l_op (y := 0) rfl (by omega)) (fun I' s' => hQ I' ?_)
        rw [show x.toInt = GS (I0 uB) lim p.1 by omega] at s'
        rw [hr]
        show LSw Z I0 v0 uD lim I' t'.1 t'.2.1 (c ++ (p.2.2 ++ t'.2.2 ++ [2000 + GS (I0 uB) lim p.1]))
        rw [g2]
        rw [List.append_assoc c, List.append_assoc c] at s'
        exact s'
      · refine l_emitD s11 g2 (hQ I11 ?_)
        rw [hr]
        exact LSw_any s11 g2
    refine l_ahead (k2 := 60) (k3 := 62) t s1 (by omega) rfl rfl (by omega) (fun g1 g2 => ⟨fun _ => ?_, fun q => absurd q (by decide)⟩) (fun g => ⟨fun q => absurd rfl q, fun _ => ?_⟩)
    · rcases hp with ⟨b1, b2, t', e', hr⟩ | ⟨b, hr⟩
      · exact go b1 t' e' hr b2
      · exact absurd ⟨g1, by omega⟩ b
    · refine l_ahead (k2 := 61) (k3 := 61) t s1 (by omega) rfl rfl (by omega) (fun g1 g2 => ⟨fun q => absurd q (by decide), fun _ => ?_⟩) (fun g' => ⟨fun _ => ?_, fun q => absurd rfl q⟩)
      · rcases hp with ⟨b1, b2, t', e', hr⟩ | ⟨b, hr⟩
        · exact go b1 t' e' hr b2
        · exact absurd ⟨g1, by omega⟩ b
      · rcases hp with ⟨b1, b2, t', e', hr⟩ | ⟨b, hr⟩
        · omega
        · rw [hr] at hQ
          exact hQ I1 s1
set_option maxHeartbeats 4000000 in
theorem LC_sum {Z : jZ} {I0 : jI} {v0 v1 uB uD : Nat} {lim : Int} {d : Nat} (t : TLw Z I0 v0 v1 uB uD lim) (ih : LCa Z I0 v0 v1 uB uD lim d) : LC1 Z I0 v0 v1 uB uD lim (d + 1) 1 1 := by
  intro D k a r c v2 I L Q hp s h0 h1 hc ek hk hD hQ
  have hl := t.2.2.2.2.2.1
  obtain ⟨p, e, hp⟩ := PL_i1 hp
  obtain ⟨p1, p2, p3, p4⟩ := PL_ok GSx d 2 k a p (by omega) h0 h1 e
  cases D with
  | zero => omega
  | succ D =>
    show fs_X3_readSum (fR3 D) v0 v1 v2 Z I L Q
    unfold fs_X3_readSum
    refine ih.2.2.1 D k a p c v2 I L _ e s h0 h1 hc ek hk (by omega) (fun I1 s1 => ?_)
    refine ⟨41 + 1, ?_⟩
    rcases hp with ⟨b1, t', e', hr⟩ | ⟨b, hr⟩
    · have z4 : (p.2.2.length : Int) + a ≤ p.1 + 0 := (p4 b1).2
      rw [b1] at s1
      refine ih.2.2.2.2.2.2.2.1 D k (41 + 1) p.1 t' (c ++ p.2.2) v2 0 I1 L Q e' s1 (by omega) p2 (by rw [List.length_append]; omega) ek hk (by omega) (by decide) (by show (0 : Int) ≤ p.1; omega) (by omega) (fun I' s' => hQ I' ?_)
      rw [hr]
      rw [List.append_assoc] at s'
      exact s'
    · refine l_sumF t s1 (by omega) b (hQ I1 ?_)
      rw [hr]
      exact s1
set_option maxHeartbeats 4000000 in
theorem LC_prod {Z : jZ} {I0 : jI} {v0 v1 uB uD : Nat} {lim : Int} {d : Nat} (t : TLw Z I0 v0 v1 uB uD lim) (ih : LCa Z I0 v0 v1 uB uD lim d) : LC1 Z I0 v0 v1 uB uD lim (d + 1) 2 2 := by
  intro D k a r c v2 I L Q hp s h0 h1 hc ek hk hD hQ
  have hl := t.2.2.2.2.2.1
  obtain ⟨p, e, hp⟩ := PL_i2 hp
  obtain ⟨p1, p2, p3, p4⟩ := PL_ok GSx d 3 k a p (by omega) h0 h1 e
  cases D with
  | zero => omega
  | succ D =>
    show fs_X3_readProduct (fR3 D) v0 v1 v2 Z I L Q
    unfold fs_X3_readProduct
    refine ih.2.2.2.1 D k a p c v2 I L _ e s h0 h1 hc ek hk (by omega) (fun I1 s1 => ?_)
    refine ⟨41 + 1, ?_⟩
    rcases hp with ⟨b1, t', e', hr⟩ | ⟨b, hr⟩
    · have z4 : (p.2.2.length : Int) + a ≤ p.1 + 0 := (p4 b1).2
      rw [b1] at s1
      refine ih.2.2.2.2.2.2.2.2 D k (41 + 1) p.1 t' (c ++ p.2.2) v2 0 I1 L Q e' s1 (by omega) p2 (by rw [List.length_append]; omega) ek hk (by omega) (by decide) (by show (0 : Int) ≤ p.1; omega) (by omega) (fun I' s' => hQ I' ?_)
      rw [hr]
      rw [List.append_assoc] at s'
      exact s'
    · refine l_prodF t s1 (by omega) b (hQ I1 ?_)
      rw [hr]
      exact s1
theorem LC_sig {Z : jZ} {I0 : jI} {v0 v1 uB uD : Nat} {lim : Int} {d : Nat} (t : TLw Z I0 v0 v1 uB uD lim) (ih : LC3 Z I0 v0 v1 uB uD lim d 3 0) : LC1 Z I0 v0 v1 uB uD lim d 3 3 := by
  intro D k a r c v2 I L Q hp s h0 h1 hc ek hk hD hQ
  have hl := t.2.2.2.2.2.1
  cases D with
  | zero => omega
  | succ D =>
    show fs_X3_readSigned (fR3 D) v0 v1 v2 Z I L Q
    unfold fs_X3_readSigned
    exact ⟨42, ih D k 42 a r c v2 0 I L Q hp s h0 h1 (by show (c.length : Int) + 0 ≤ a; omega) ek hk (by omega) (by decide) (by show (0 : Int) ≤ a; omega) (by omega) hQ⟩
set_option maxHeartbeats 4000000 in
theorem LC_l3 {Z : jZ} {I0 : jI} {v0 v1 uB uD : Nat} {lim : Int} {d : Nat} (t : TLw Z I0 v0 v1 uB uD lim) (ih : LCa Z I0 v0 v1 uB uD lim d) : LC3 Z I0 v0 v1 uB uD lim (d + 1) 3 0 := by
  intro D k m a r c v2 v4 I L Q hp s h0 h1 hc ek hk hD g0 g1 hm hQ
  have hl := t.2.2.2.2.2.1
  have hc : (c.length : Int) + 0 ≤ a := hc
  cases m with
  | zero => omega
  | succ m =>
    have stop : ¬ GS (I0 uB) lim a = 45 → fs_X3_readSigned_b50 (fR3 D) Z Q v0 v1 v2 0 I L := by
      intro ng
      unfold fs_X3_readSigned_b50
      rcases PL_i3 hp with ⟨b, -⟩ | ⟨-, e⟩
      · exact absurd b ng
      · exact ih.2.2.2.2.1 D k a r c v2 I L _ e s h0 h1 (by omega) ek hk (by omega) (fun I1 s1 => ⟨fun _ => hQ I1 s1, fun q => absurd rfl q⟩)
    unfold fs_X3_readSigned_L5
    refine ⟨fun q => stop (fun q2 => ?_), fun q => ?_⟩
    · have q := (i_le (show (40 : Int32).toInt = 40 from rfl) (y := v4) rfl).mp q
      have := GSlt (f := I0 uB) (lim := lim) (x := a) (by omega)
      omega
    refine l_ahead (k2 := 45) (k3 := 45) t s h0 rfl rfl (by omega) (fun q1 q2 => ⟨fun q => absurd q (by decide), fun _ => ⟨fun q => absurd rfl q, fun _ => ?_⟩⟩) (fun g => ⟨fun _ => stop (by omega), fun q => absurd rfl q⟩)
    have l1 := GSlt (f := I0 uB) (lim := lim) (x := a) (by omega)
    unfold fs_X3_readSigned_b33
    intro I14 e14 x15 e15
    rw [e14]
    have d15 : x15.toInt = v4.toInt + 1 := by rw [e15]; exact i_add rfl (show (1 : Int32).toInt = 1 from rfl) (by omega) (by omega)
    rcases PL_i3 hp with ⟨-, e⟩ | ⟨b, -⟩
    · exact ih.2.2.2.2.2.2.1 D k m (a + 1) r c v2 x15 _ L Q e (LSw_at t s (by omega)) (by omega) l1 (by show (c.length : Int) + 1 ≤ a + 1; omega) ek hk hD (by omega) (by omega) (by omega) hQ
    · omega
set_option maxHeartbeats 4000000 in
theorem LC_l7 {Z : jZ} {I0 : jI} {v0 v1 uB uD : Nat} {lim : Int} {d : Nat} (t : TLw Z I0 v0 v1 uB uD lim) (ih : LCa Z I0 v0 v1 uB uD lim d) : LC3 Z I0 v0 v1 uB uD lim (d + 1) 7 1 := by
  intro D k m a r c v2 v4 I L Q hp s h0 h1 hc ek hk hD g0 g1 hm hQ
  have hl := t.2.2.2.2.2.1
  have hc : (c.length : Int) + 1 ≤ a := hc
  cases m with
  | zero => omega
  | succ m =>
    have stop : ¬ GS (I0 uB) lim a = 45 → fs_X3_readSigned_b50 (fR3 D) Z Q v0 v1 v2 1 I L := by
      intro ng
      unfold fs_X3_readSigned_b50
      rcases PL_i7 hp with ⟨b, -⟩ | ⟨-, p, e, hr⟩
      · exact absurd b ng
      obtain ⟨p1, p2, p3, p4⟩ := PL_ok GSx d 6 k a p (by omega) h0 h1 e
      refine ih.2.2.2.2.1 D k a p c v2 I L _ e s h0 h1 (by omega) ek hk (by omega) (fun I1 s1 => ⟨fun q => absurd q (by decide), fun _ => ?_⟩)
      by_cases b : p.2.1 = -1
      · rw [b] at s1
        have z4 : (p.2.2.length : Int) + a ≤ p.1 + 0 := (p4 b).2
        refine l_emit (v := 2000) t s1 (by rw [List.length_append]; omega) rfl (fun I' s' => hQ I' ?_)
        rw [hr]
        show LSw Z I0 v0 uD lim I' p.1 p.2.1 (c ++ (p.2.2 ++ [2000]))
        rw [b]
        rw [List.append_assoc] at s'
        exact s'
      · refine l_emitD s1 b (hQ I1 ?_)
        rw [hr]
        exact LSw_any s1 b
    unfold fs_X3_readSigned_L5
    refine ⟨fun q => stop (fun q2 => ?_), fun q => ?_⟩
    · have q := (i_le (show (40 : Int32).toInt = 40 from rfl) (y := v4) rfl).mp q
      have := GSlt (f := I0 uB) (lim := lim) (x := a) (by omega)
      omega
    refine l_ahead (k2 := 45) (k3 := 45) t s h0 rfl rfl (by omega) (fun q1 q2 => ⟨fun q => absurd q (by decide), fun _ => ⟨fun _ => ?_, fun q => absurd q (by decide)⟩⟩) (fun g => ⟨fun _ => stop (by omega), fun q => absurd rfl q⟩)
    have l1 := GSlt (f := I0 uB) (lim := lim) (x := a) (by omega)
    unfold fs_X3_readSigned_b33
    intro I14 e14 x15 e15
    rw [e14]
    have d15 : x15.toInt = v4.toInt + 1 := by rw [e15]; exact i_add rfl (show (1 : Int32).toInt = 1 from rfl) (by omega) (by omega)
    rcases PL_i7 hp with ⟨-, e⟩ | ⟨b, -⟩
    · exact ih.2.2.2.2.2.1 D k m (a + 1) r c v2 x15 _ L Q e (LSw_at t s (by omega)) (by omega) l1 (by show (c.length : Int) + 0 ≤ a + 1; omega) ek hk hD (by omega) (by omega) (by omega) hQ
    · omega
set_option maxHeartbeats 4000000 in
theorem LC_l4 {Z : jZ} {I0 : jI} {v0 v1 uB uD : Nat} {lim : Int} {d : Nat} (t : TLw Z I0 v0 v1 uB uD lim) (ih : LCa Z I0 v0 v1 uB uD lim d) : LC4 Z I0 v0 v1 uB uD lim (d + 1) := by
  intro D k m a r c v2 v3 I L Q hp s h0 h1 hc ek hk hD g0 g1 hm hQ
  have hl := t.2.2.2.2.2.1
  cases m with
  | zero => omega
  | succ m =>
    have stop : ¬ (GS (I0 uB) lim a = 43 ∨ GS (I0 uB) lim a = 45) → Q I L := by
      intro ng
      rcases PL_i4 hp with ⟨b, -⟩ | ⟨-, hr⟩
      · exact absurd b ng
      · refine hQ I ?_
        rw [hr]
        show LSw Z I0 v0 uD lim I a (-1) (c ++ [])
        rw [List.append_nil]
        exact s
    unfold fs_X3_readSum_L8
    refine ⟨fun q => stop (fun q2 => ?_), fun q => ?_⟩
    · have q := (i_le (show (40 : Int32).toInt = 40 from rfl) (y := v3) rfl).mp q
      have := GSlt (f := I0 uB) (lim := lim) (x := a) (by omega)
      omega
    refine l_ahead (k2 := 43) (k3 := 45) t s h0 rfl rfl (by omega) (fun q1 q2 => ⟨fun q => absurd q (by decide), fun _ => ?_⟩) (fun g => ⟨fun _ => stop (by omega), fun q => absurd rfl q⟩)
    have l1 := GSlt (f := I0 uB) (lim := lim) (x := a) (by omega)
    refine l_look t s h0 (fun x hx x0 x1 => ?_)
    unfold CLk at hx
    intro I17 e17
    rw [e17]
    rcases PL_i4 hp with ⟨-, p, e, hp⟩ | ⟨b, -⟩
    · obtain ⟨p1, p2, p3, p4⟩ := PL_ok GSx d 2 k (a + 1) p (by omega) (by omega) l1 e
      refine ih.2.2.1 D k (a + 1) p c v2 _ L _ e (LSw_at t s (by omega)) (by omega) l1 (by omega) ek hk (by omega) (fun I1 s1 => ?_)
      rcases hp with ⟨b, t', e', hr⟩ | ⟨b, hr⟩
      · rw [b] at s1
        have z4 : (p.2.2.length : Int) + (a + 1) ≤ p.1 + 0 := (p4 b).2
        refine l_emit t s1 (by rw [List.length_append]; omega) (l_op (y := 0) rfl (by omega)) (fun I' s' => ?_)
        intro x30 e30
        have d30 : x30.toInt = v3.toInt + 1 := by rw [e30]; exact i_add rfl (show (1 : Int32).toInt = 1 from rfl) (by omega) (by omega)
        rw [show x.toInt = GS (I0 uB) lim a by omega] at s'
        refine ih.2.2.2.2.2.2.2.1 D k m p.1 t' _ v2 x30 I' L Q e' s' (by omega) p2 (by rw [List.length_append, List.length_append]; show ((c.length + p.2.2.length + 1 : Nat) : Int) ≤ p.1; omega) ek hk hD (by omega) (by omega) (by omega) (fun I2 s2 => hQ I2 ?_)
        rw [hr]
        rw [ap0] at s2
        exact s2
      · refine l_emitD s1 b ?_
        intro x30 e30
        cases m with
        | zero => omega
        | succ m =>
          refine l_sumF t s1 (by omega) b (hQ I1 ?_)
          rw [hr]
          exact s1
    · omega
set_option maxHeartbeats 4000000 in
theorem LC_l5 {Z : jZ} {I0 : jI} {v0 v1 uB uD : Nat} {lim : Int} {d : Nat} (t : TLw Z I0 v0 v1 uB uD lim) (ih : LCa Z I0 v0 v1 uB uD lim d) : LC5 Z I0 v0 v1 uB uD lim (d + 1) := by
  intro D k m a r c v2 v3 I L Q hp s h0 h1 hc ek hk hD g0 g1 hm hQ
  have hl := t.2.2.2.2.2.1
  cases m with
  | zero => omega
  | succ m =>
    have stop : ¬ (GS (I0 uB) lim a = 42 ∨ GS (I0 uB) lim a = 47) → Q I L := by
      intro ng
      rcases PL_i5 hp with ⟨b, -⟩ | ⟨-, hr⟩
      · exact absurd b ng
      · refine hQ I ?_
        rw [hr]
        show LSw Z I0 v0 uD lim I a (-1) (c ++ [])
        rw [List.append_nil]
        exact s
    unfold fs_X3_readProduct_L8
    refine ⟨fun q => stop (fun q2 => ?_), fun q => ?_⟩
    · have q := (i_le (show (40 : Int32).toInt = 40 from rfl) (y := v3) rfl).mp q
      have := GSlt (f := I0 uB) (lim := lim) (x := a) (by omega)
      omega
    refine l_ahead (k2 := 42) (k3 := 47) t s h0 rfl rfl (by omega) (fun q1 q2 => ⟨fun q => absurd q (by decide), fun _ => ?_⟩) (fun g => ⟨fun _ => stop (by omega), fun q => absurd rfl q⟩)
    have l1 := GSlt (f := I0 uB) (lim := lim) (x := a) (by omega)
    refine l_look t s h0 (fun x hx x0 x1 => ?_)
    unfold CLk at hx
    intro I17 e17
    rw [e17]
    rcases PL_i5 hp with ⟨-, p, e, hp⟩ | ⟨b, -⟩
    · obtain ⟨p1, p2, p3, p4⟩ := PL_ok GSx d 3 k (a + 1) p (by omega) (by omega) l1 e
      refine ih.2.2.2.1 D k (a + 1) p c v2 _ L _ e (LSw_at t s (by omega)) (by omega) l1 (by omega) ek hk (by omega) (fun I1 s1 => ?_)
      rcases hp with ⟨b, t', e', hr⟩ | ⟨b, hr⟩
      · rw [b] at s1
        have z4 : (p.2.2.length : Int) + (a + 1) ≤ p.1 + 0 := (p4 b).2
        refine l_emit t s1 (by rw [List.length_append]; omega) (l_op (y := 0) rfl (by omega)) (fun I' s' => ?_)
        intro x30 e30
        have d30 : x30.toInt = v3.toInt + 1 := by rw [e30]; exact i_add rfl (show (1 : Int32).toInt = 1 from rfl) (by omega) (by omega)
        rw [show x.toInt = GS (I0 uB) lim a by omega] at s'
        refine ih.2.2.2.2.2.2.2.2 D k m p.1 t' _ v2 x30 I' L Q e' s' (by omega) p2 (by rw [List.length_append, List.length_append]; show ((c.length + p.2.2.length + 1 : Nat) : Int) ≤ p.1; omega) ek hk hD (by omega) (by omega) (by omega) (fun I2 s2 => hQ I2 ?_)
        rw [hr]
        rw [ap0] at s2
        exact s2
      · refine l_emitD s1 b ?_
        intro x30 e30
        cases m with
        | zero => omega
        | succ m =>
          refine l_prodF t s1 (by omega) b (hQ I1 ?_)
          rw [hr]
          exact s1
    · omega
set_option maxHeartbeats 4000000 in
theorem LC_th {Z : jZ} {I0 : jI} {v0 v1 uB uD : Nat} {lim : Int} {d : Nat} (t : TLw Z I0 v0 v1 uB uD lim) (ih : LCa Z I0 v0 v1 uB uD lim d) : LC1 Z I0 v0 v1 uB uD lim (d + 1) 6 4 := by
  intro D k a r c v2 I L Q hp s h0 h1 hc ek hk hD hQ
  have hl := t.2.2.2.2.2.1
  have hp := PL_i6 hp
  cases D with
  | zero => omega
  | succ D =>
    show fs_X3_readThing (fR3 D) v0 v1 v2 Z I L Q
    unfold fs_X3_readThing
    refine l_look t s h0 (fun x hx x0 x1 => ?_)
    unfold CLk at hx
    have key : ∀ s0 : Int32, (-1 ≤ s0.toInt ∧ s0.toInt ≤ 6) → (0 ≤ x.toInt → s0.toInt = lix x.toInt) → (x.toInt < 0 → s0.toInt = -1) → fs_X3_readThing_b22 (fR3 D) Z Q v0 v1 v2 x s0 I L := by
      intro s0 r0 r1 r2
      have hsx : (0 ≤ lix (GS (I0 uB) lim a) → s0.toInt = lix (GS (I0 uB) lim a) ∧ x.toInt = GS (I0 uB) lim a) ∧ (¬ 0 ≤ lix (GS (I0 uB) lim a) → s0.toInt < 0) := by
        constructor
        · intro q
          have := lix_0 q
          have ex : x.toInt = GS (I0 uB) lim a := hx.1 (by omega)
          rw [ex] at r1
          exact ⟨r1 (by omega), ex⟩
        · intro q
          by_cases q2 : 0 ≤ GS (I0 uB) lim a
          · have ex : x.toInt = GS (I0 uB) lim a := hx.1 q2
            rw [ex] at r1
            have := r1 q2
            omega
          · rcases hx.2 (by omega) with q3 | q3
            · have := r2 (by omega)
              omega
            · have := r1 (by omega)
              rw [lix_off (a := x.toInt) (by omega)] at this
              omega
      unfold fs_X3_readThing_b22
      refine ⟨fun _ => ?_, fun q => absurd ((i_eq s.2.2.2.1 (show (-1 : Int32).toInt = -1 from rfl)).mpr rfl) q⟩
      unfold f_X10_isDigit
      have nodig : ¬ (48 ≤ GS (I0 uB) lim a ∧ GS (I0 uB) lim a ≤ 57) → (s0 < 0 → ((¬ x = (40 : Int32) → fs_X3_readThing_b113 (fR3 D) Z Q v0 I L) ∧ (x = (40 : Int32) → (((4 : Int32) ≤ v2 → fs_X3_readThing_b113 (fR3 D) Z Q v0 I L) ∧ (¬ ((4 : Int32) ≤ v2) → (∀ I14 : jI, I14 = jpI I v0 6 ((I v0 6) + (1 : Int32)) → (fR3 D 0 v0 v1 (v2 + (1 : Int32)) Z I14 L (fun I17 L18 => (f_X3_readClosing v0 v1 Z I17 L18 (fun I23 L24 => Q I23 L24)))))))))) ∧ (¬ (s0 < 0) → (∀ I27 : jI, I27 = jpI I v0 6 ((I v0 6) + (1 : Int32)) → (f_X3_emit v0 ((1000 : Int32) + s0) Z I27 L (fun I30 L31 => Q I30 L31)))) := by
        intro nd
        have bad : ¬ 0 ≤ lix (GS (I0 uB) lim a) → ¬ (GS (I0 uB) lim a = 40 ∧ k < 4) → fs_X3_readThing_b113 (fR3 D) Z Q v0 I L := by
          intro q q2
          unfold fs_X3_readThing_b113
          intro I1 e1
          rw [e1]
          rcases hp with ⟨b, -⟩ | ⟨-, b, -⟩ | ⟨-, -, b, -⟩ | ⟨-, -, -, hr⟩
          · exact absurd b nd
          · exact absurd b q
          · exact absurd b q2
          · have s2 := LSw_flt (c' := c ++ []) (y := I v0 6) t s (by rw [s.2.2.1]; omega)
            rw [s.2.2.1] at s2
            rw [hr] at hQ
            exact hQ _ s2
        refine ⟨fun q => ⟨fun q2 => ?_, fun q2 => ⟨fun q3 => ?_, fun q3 => ?_⟩⟩, fun q => ?_⟩
        · have q := (i_lt (x := s0) (y := 0) rfl (show (0 : Int32).toInt = 0 from rfl)).mp q
          have q2 := (not_congr (i_eq (x := x) (y := 40) rfl (show (40 : Int32).toInt = 40 from rfl))).mp q2
          exact bad (fun g => by have := (hsx.1 g).1; omega) (fun g => by have := hx.1 (by omega); omega)
        · have q := (i_lt (x := s0) (y := 0) rfl (show (0 : Int32).toInt = 0 from rfl)).mp q
          have q3 := (i_le (show (4 : Int32).toInt = 4 from rfl) ek).mp q3
          exact bad (fun g => by have := (hsx.1 g).1; omega) (fun g => by omega)
        · have q := (i_lt (x := s0) (y := 0) rfl (show (0 : Int32).toInt = 0 from rfl)).mp q
          have q2 := (i_eq (x := x) (y := 40) rfl (show (40 : Int32).toInt = 40 from rfl)).mp q2
          have q3 := (not_congr (i_le (show (4 : Int32).toInt = 4 from rfl) ek)).mp q3
          have g40 : GS (I0 uB) lim a = 40 := by omega
          have l1 := GSlt (f := I0 uB) (lim := lim) (x := a) (by omega)
          intro I14 e14
          rw [e14]
          rcases hp with ⟨b, -⟩ | ⟨-, b, -⟩ | ⟨-, -, -, p, e, hp⟩ | ⟨-, -, b, -⟩
          · exact absurd b nd
          · have := (hsx.1 b).1
            omega
          · obtain ⟨p1, p2, p3, p4⟩ := PL_ok GSx d 0 (k + 1) (a + 1) p (by omega) (by omega) l1 e
            have ek1 : (v2 + (1 : Int32)).toInt = ((k + 1 : Nat) : Int) := (i_add ek (show (1 : Int32).toInt = 1 from rfl) (by omega) (by omega)).trans (by omega)
            refine ih.1 D (k + 1) (a + 1) p c _ _ L _ e (LSw_at t s (by omega)) (by omega) l1 (by omega) ek1 (by omega) (by omega) (fun I1 s1 => ?_)
            refine l_closing (c' := c ++ []) t s1 (by omega) (fun b1 b2 I2 s2 => ?_) (fun b1 b2 I2 s2 => ?_) (fun b1 => ?_)
            · rcases hp with ⟨-, -, hr⟩ | ⟨-, b, -⟩ | ⟨b, -⟩
              · rw [hr] at hQ; exact hQ I2 s2
              · exact absurd b2 b
              · exact absurd b1 b
            · rcases hp with ⟨-, b, -⟩ | ⟨-, -, hr⟩ | ⟨b, -⟩
              · exact absurd b b2
              · rw [hr] at hQ; exact hQ I2 s2
              · exact absurd b1 b
            · rcases hp with ⟨b, -⟩ | ⟨b, -⟩ | ⟨-, hr⟩
              · exact absurd b b1
              · exact absurd b b1
              · rw [hr] at hQ; exact hQ I1 s1
          · exact absurd ⟨g40, by omega⟩ b
        · have q := (not_congr (i_lt (x := s0) (y := 0) rfl (show (0 : Int32).toInt = 0 from rfl))).mp q
          intro I27 e27
          rw [e27]
          have hlx : 0 ≤ lix (GS (I0 uB) lim a) := Classical.byContradiction (fun b => by have := hsx.2 b; omega)
          obtain ⟨y1, y2⟩ := hsx.1 hlx
          have l1 := GSlt (f := I0 uB) (lim := lim) (x := a) (by have := lix_0 hlx; omega)
          have rl := lix_rng (GS (I0 uB) lim a)
          rcases hp with ⟨b, -⟩ | ⟨-, -, hr⟩ | ⟨-, b, -⟩ | ⟨-, b, -⟩
          · exact absurd b nd
          · refine l_emit (v := 1000 + lix (GS (I0 uB) lim a)) t (LSw_at t s (by omega)) (by omega) (i_add (show (1000 : Int32).toInt = 1000 from rfl) y1 (by omega) (by omega)) (fun I' s' => ?_)
            rw [hr] at hQ
            exact hQ I' s'
          · exact absurd hlx b
          · exact absurd hlx b
      refine ⟨fun c1 => ⟨fun _ => nodig ?_, fun e => absurd rfl e⟩, fun c1 => ⟨fun c2 => ⟨fun _ => nodig ?_, fun e => absurd rfl e⟩, fun c2 => ⟨fun e => absurd e (by decide), fun _ => ?_⟩⟩⟩
      · have c1 := (i_lt (x := x) (y := 48) rfl (show (48 : Int32).toInt = 48 from rfl)).mp c1
        omega
      · have c2 := (i_lt (x := 57) (y := x) (show (57 : Int32).toInt = 57 from rfl) rfl).mp c2
        omega
      · have c1 := (not_congr (i_lt (x := x) (y := 48) rfl (show (48 : Int32).toInt = 48 from rfl))).mp c1
        have c2 := (not_congr (i_lt (x := 57) (y := x) (show (57 : Int32).toInt = 57 from rfl) rfl)).mp c2
        have hg : 48 ≤ GS (I0 uB) lim a ∧ GS (I0 uB) lim a ≤ 57 := by omega
        have l1 := GSlt (f := I0 uB) (lim := lim) (x := a) (by omega)
        rcases hp with ⟨-, hr⟩ | ⟨b, -⟩ | ⟨b, -⟩ | ⟨b, -⟩
        · refine l_number t s (by omega) (by omega) (fun I' s' => ?_)
          rw [hr] at hQ
          exact hQ I' s'
        · exact absurd hg b
        · exact absurd hg b
        · exact absurd hg b
    refine ⟨fun q => ?_, fun q => ?_⟩
    · have q := (not_congr (i_eq (x := x) (y := -1) rfl (show (-1 : Int32).toInt = -1 from rfl))).mp q
      intro r48 h48
      have e16 := u16_id (x := x) rfl (by omega) x1
      rw [e16] at h48
      exact key r48 h48.1 (fun _ => h48.2 (by omega) x1) (fun g => by omega)
    · have q := (i_eq (x := x) (y := -1) rfl (show (-1 : Int32).toInt = -1 from rfl)).mp q
      exact key (-1) ⟨by decide, by decide⟩ (fun g => by omega) (fun _ => rfl)
theorem LC_all {Z : jZ} {I0 : jI} {v0 v1 uB uD : Nat} {lim : Int} (t : TLw Z I0 v0 v1 uB uD lim) : ∀ d, LCa Z I0 v0 v1 uB uD lim d := by
  intro d
  induction d with
  | zero => exact ⟨fun _ _ _ _ _ _ _ _ _ h => (by cases h), fun _ _ _ _ _ _ _ _ _ h => (by cases h), fun _ _ _ _ _ _ _ _ _ h => (by cases h), fun _ _ _ _ _ _ _ _ _ h => (by cases h), fun _ _ _ _ _ _ _ _ _ h => (by cases h), fun _ _ _ _ _ _ _ _ _ _ _ h => (by cases h), fun _ _ _ _ _ _ _ _ _ _ _ h => (by cases h), fun _ _ _ _ _ _ _ _ _ _ _ h => (by cases h), fun _ _ _ _ _ _ _ _ _ _ _ h => (by cases h)⟩
  | succ d ih =>
    have l3 := LC_l3 t ih
    exact ⟨LC_ex t ih, LC_sum t ih, LC_prod t ih, LC_sig t l3, LC_th t ih, l3, LC_l7 t ih, LC_l4 t ih, LC_l5 t ih⟩
end
section
/-! ===== rules: the fewest ===== -/
/-- what the FAMILIES of a set have -/
def BS (D : Nat → Int) (b : Int32) : Int := shS (fun k => if hbt b k = true then D k else 0) 8
/-- the class: from all on down -/
def fwC (S : Int32 → Int) (all : Int) : Nat → Int32
  | 0 => 255
  | k + 1 => if all < 2 * S (Int32.ofNat (k + 1)) ∧ (bcV (Int32.ofNat (k + 1))).toInt < (bcV (fwC S all k)).toInt then Int32.ofNat (k + 1) else fwC S all k
/-- the reference: from none on up -/
def fwM (S : Int32 → Int) (all : Int) : Nat → Int32
  | 0 => 0
  | k + 1 => if all < 2 * S (Int32.ofNat (k + 1)) ∧ (fwM S all k = 0 ∨ (bcV (Int32.ofNat (k + 1))).toInt < (bcV (fwM S all k)).toInt) then Int32.ofNat (k + 1) else fwM S all k
theorem bc_le7 : ∀ k : Nat, 1 ≤ k → k ≤ 254 → (bcV (Int32.ofNat k)).toInt ≤ 7 := by
  have key : ∀ k : Fin 255, (bcV (Int32.ofNat k.val)).toInt ≤ 7 := by decide +kernel
  exact fun k _ h2 => key ⟨k, by omega⟩
theorem bc_255 : (bcV (255 : Int32)).toInt = 8 := by decide +kernel
theorem ofn_ne {k : Nat} (h1 : 1 ≤ k) (h2 : k ≤ 255) : ¬ Int32.ofNat k = 0 := fun e => by
  have a := i_nI (n := k) (by omega)
  have b : (Int32.ofNat k).toInt = 0 := yz e
  have a : (Int32.ofNat k).toInt = (k : Int) := a
  omega
theorem fw_inv {S T : Int32 → Int} {all : Int} (h : ∀ k : Nat, 1 ≤ k → k ≤ 255 → S (Int32.ofNat k) = T (Int32.ofNat k)) : ∀ k, k ≤ 254 → (fwC S all k = 255 ∧ fwM T all k = 0) ∨ ∃ j : Nat, 1 ≤ j ∧ j ≤ k ∧ fwC S all k = Int32.ofNat j ∧ fwM T all k = Int32.ofNat j := by
  intro k
  induction k with
  | zero => intro _; exact Or.inl ⟨rfl, rfl⟩
  | succ k ih =>
    intro hk
    have eS := h (k + 1) (by omega) (by omega)
    have b7 := bc_le7 (k + 1) (by omega) hk
    rcases ih (by omega) with ⟨e1, e2⟩ | ⟨j, j1, j2, e1, e2⟩
    · have g1 : fwC S all (k + 1) = if all < 2 * S (Int32.ofNat (k + 1)) ∧ (bcV (Int32.ofNat (k + 1))).toInt < (bcV (fwC S all k)).toInt then Int32.ofNat (k + 1) else fwC S all k := rfl
      have g2 : fwM T all (k + 1) = if all < 2 * T (Int32.ofNat (k + 1)) ∧ (fwM T all k = 0 ∨ (bcV (Int32.ofNat (k + 1))).toInt < (bcV (fwM T all k)).toInt) then Int32.ofNat (k + 1) else fwM T all k := rfl
      rw [e1, bc_255] at g1
      rw [e2] at g2
      by_cases c : all < 2 * S (Int32.ofNat (k + 1))
      · rw [if_pos ⟨c, by omega⟩] at g1
        rw [if_pos ⟨by rw [← eS]; exact c, Or.inl rfl⟩] at g2
        exact Or.inr ⟨k + 1, by omega, Nat.le_refl _, g1, g2⟩
      · rw [if_neg (fun x => c x.1)] at g1
        rw [if_neg (fun x => c (by rw [eS]; exact x.1))] at g2
        exact Or.inl ⟨g1, g2⟩
    · have g1 : fwC S all (k + 1) = if all < 2 * S (Int32.ofNat (k + 1)) ∧ (bcV (Int32.ofNat (k + 1))).toInt < (bcV (fwC S all k)).toInt then Int32.ofNat (k + 1) else fwC S all k := rfl
      have g2 : fwM T all (k + 1) = if all < 2 * T (Int32.ofNat (k + 1)) ∧ (fwM T all k = 0 ∨ (bcV (Int32.ofNat (k + 1))).toInt < (bcV (fwM T all k)).toInt) then Int32.ofNat (k + 1) else fwM T all k := rfl
      rw [e1] at g1
      rw [e2] at g2
      have nj := ofn_ne j1 (by omega)
      by_cases c : all < 2 * S (Int32.ofNat (k + 1)) ∧ (bcV (Int32.ofNat (k + 1))).toInt < (bcV (Int32.ofNat j)).toInt
      · rw [if_pos c] at g1
        rw [if_pos ⟨by rw [← eS]; exact c.1, Or.inr c.2⟩] at g2
        exact Or.inr ⟨k + 1, by omega, Nat.le_refl _, g1, g2⟩
      · rw [if_neg c] at g1
        rw [if_neg (fun x => c ⟨by rw [eS]; exact x.1, x.2.resolve_left nj⟩)] at g2
        exact Or.inr ⟨j, j1, by omega, g1, g2⟩
theorem fw_eq {S T : Int32 → Int} {all : Int} (h : ∀ k : Nat, 1 ≤ k → k ≤ 255 → S (Int32.ofNat k) = T (Int32.ofNat k)) (ha : all < 2 * T (Int32.ofNat 255)) : fwC S all 254 = fwM T all 255 := by
  have g2 : fwM T all 255 = if all < 2 * T (Int32.ofNat (254 + 1)) ∧ (fwM T all 254 = 0 ∨ (bcV (Int32.ofNat (254 + 1))).toInt < (bcV (fwM T all 254)).toInt) then Int32.ofNat (254 + 1) else fwM T all 254 := rfl
  rcases fw_inv (S := S) (T := T) (all := all) h 254 (Nat.le_refl _) with ⟨e1, e2⟩ | ⟨j, j1, j2, e1, e2⟩
  · rw [if_pos ⟨ha, Or.inl e2⟩] at g2
    rw [e1, g2]
    rfl
  · have b7 := bc_le7 j j1 j2
    have b8 : (bcV (Int32.ofNat (254 + 1))).toInt = 8 := bc_255
    rw [e2] at g2
    rw [if_neg (fun x => x.2.elim (ofn_ne j1 (by omega)) (fun y => by omega))] at g2
    rw [e1, g2]
theorem fwC_rg (S : Int32 → Int) (all : Int) : ∀ k, k ≤ 254 → 1 ≤ (fwC S all k).toInt ∧ (fwC S all k).toInt ≤ 255 := by
  intro k
  induction k with
  | zero => intro _; exact ⟨show (1 : Int) ≤ (255 : Int32).toInt by decide, show (255 : Int32).toInt ≤ 255 by decide⟩
  | succ k ih =>
    intro hk
    have a : (Int32.ofNat (k + 1)).toInt = ((k + 1 : Nat) : Int) := i_nI (n := k + 1) (by omega)
    show 1 ≤ (if _ then Int32.ofNat (k + 1) else fwC S all k).toInt ∧ (if _ then Int32.ofNat (k + 1) else fwC S all k).toInt ≤ 255
    split
    · omega
    · exact ih (by omega)
theorem BS_bd {D : Nat → Int} (h : ∀ i, i < 8 → 0 ≤ D i ∧ D i ≤ 720) (b : Int32) : ∀ k, k ≤ 8 → 0 ≤ shS (fun k => if hbt b k = true then D k else 0) k ∧ shS (fun k => if hbt b k = true then D k else 0) k ≤ 720 * (k : Int) :=
  shS_bd (fun i hi => by
    show 0 ≤ (if hbt b i = true then D i else 0) ∧ (if hbt b i = true then D i else 0) ≤ 720
    have := h i hi
    split <;> omega)
/-! the class: fewestOver -/
theorem fo_L19 {Z : jZ} {I : jI} {L : jL} (w : WD Z I) (v0 : Nat) (d6 : Nat) (h6 : jr Z v0 6 = some d6) (D : Nat → Int) (eD : ∀ i, i < 8 → (I d6 i).toInt = D i) (hD : ∀ i, i < 8 → 0 ≤ D i ∧ D i ≤ 720) (v1 v2 v3 : Int32) {K : Nat → Int32 → Int32 → Int32 → jI → jL → Prop} {Q : Int32 → jI → jL → Prop}
    (hK : ∀ x3 : Int32, x3 = v3 + 1 → K v0 v1 (if v1.toInt < 2 * BS D v3 ∧ (bcV v3).toInt < (bcV v2).toInt then v3 else v2) x3 I L) :
    ∀ (n k : Nat) (v4 v5 : Int32), v5.toInt = (k : Int) → k ≤ 8 → v4.toInt = shS (fun k => if hbt v3 k = true then D k else 0) k → 9 ≤ n + k → f_X11_fewestOver_L19 K Z Q n v0 v1 v2 v3 v4 v5 I L := by
  intro n
  induction n with
  | zero => intro k v4 v5 e5 hk e4 hn; exfalso; omega
  | succ n ih =>
    intro k v4 v5 e5 hk e4 hn
    have bd := BS_bd hD v3 k hk
    rw [← e4] at bd
    unfold f_X11_fewestOver_L19
    refine ⟨fun c => ?_, fun c => ?_⟩
    · have c := (i_le (show (8 : Int32).toInt = 8 from rfl) e5).mp c
      have ek : k = 8 := by omega
      subst ek
      have e2 : ((2 : Int32) * v4).toInt = 2 * BS D v3 := by
        rw [i_mul (show (2 : Int32).toInt = 2 from rfl) rfl (by omega) (by omega), e4]
        rfl
      refine ⟨fun c2 => ?_, fun c2 => ?_⟩
      · have c2 := (i_le e2 rfl).mp c2
        unfold f_X11_fewestOver_b72
        intro x1 ex1
        have g := hK x1 ex1
        rw [if_neg (fun x => by omega)] at g
        exact g
      · have c2 := (not_congr (i_le e2 rfl)).mp c2
        refine s_J6_bitCount_0f7a4 w v3 (fun r10 p10 => ?_)
        refine s_J6_bitCount_0f7a4 w v2 (fun r17 p17 => ?_)
        refine ⟨fun c3 => ?_, fun c3 => ?_⟩
        · have c3 := (i_le rfl rfl).mp c3
          rw [p10.1, p17.1] at c3
          unfold f_X11_fewestOver_b72
          intro x1 ex1
          have g := hK x1 ex1
          rw [if_neg (fun x => by omega)] at g
          exact g
        · have c3 := (not_congr (i_le rfl rfl)).mp c3
          rw [p10.1, p17.1] at c3
          unfold f_X11_fewestOver_b72
          intro x1 ex1
          have g := hK x1 ex1
          rw [if_pos ⟨by omega, by omega⟩] at g
          exact g
    · have c := (not_congr (i_le (show (8 : Int32).toInt = 8 from rfl) e5)).mp c
      intro b19 hb19
      cases h6.symm.trans hb19
      refine ⟨vi_of e5 (by omega) (by omega), ?_⟩
      intro x21 e21 x22 e22
      have q5 : v5.toNatClampNeg = k := by have := i_nat e5 (by omega); omega
      have s5 : v5 = Int32.ofNat k := (i_eq e5 (i_nI (n := k) (by omega))).mpr rfl
      have ed := eD k (by omega)
      have hd := hD k (by omega)
      rw [q5] at e21
      refine ih (k + 1) x21 x22 ?_ (by omega) ?_ (by omega)
      · rw [e22]; exact (i_add e5 (show (1 : Int32).toInt = 1 from rfl) (by omega) (by omega)).trans (by omega)
      · show _ = shS (fun k => if hbt v3 k = true then D k else 0) k + (if hbt v3 k = true then D k else 0)
        rw [← e4, e21]
        rcases and1 (v3 >>> (v5 &&& 31)) with hb | hb
        · have hh := hbt_no (v := v3) (k := k) (by rw [← s5]; exact hb)
          rw [hb, hh, if_neg (by decide)]
          exact i_add rfl (i_mul (show (0 : Int32).toInt = 0 from rfl) ed (by omega) (by omega) |>.trans (Int.zero_mul _)) (by omega) (by omega)
        · have hh := hbt_yes (v := v3) (k := k) (by rw [← s5, hb]; decide)
          rw [hb, hh, if_pos rfl]
          exact i_add rfl (i_mul (show (1 : Int32).toInt = 1 from rfl) ed (by omega) (by omega) |>.trans (Int.one_mul _)) (by omega) (by omega)
theorem fo_L6 {Z : jZ} {I : jI} {L : jL} (w : WD Z I) (v0 : Nat) (d6 : Nat) (h6 : jr Z v0 6 = some d6) (D : Nat → Int) (eD : ∀ i, i < 8 → (I d6 i).toInt = D i) (hD : ∀ i, i < 8 → 0 ≤ D i ∧ D i ≤ 720) (v1 : Int32) {Q : Int32 → jI → jL → Prop} (hQ : Q (fwC (BS D) v1.toInt 254) I L) :
    ∀ (n k : Nat) (v2 v3 : Int32), v3.toInt = ((k + 1 : Nat) : Int) → k ≤ 254 → v2 = fwC (BS D) v1.toInt k → 255 ≤ n + k → f_X11_fewestOver_L6 Z Q n v0 v1 v2 v3 I L := by
  intro n
  induction n with
  | zero => intro k v2 v3 e3 hk e2 hn; exfalso; omega
  | succ n ih =>
    intro k v2 v3 e3 hk e2 hn
    unfold f_X11_fewestOver_L6
    refine ⟨fun c => ?_, fun c => ?_⟩
    · have c := (i_le (show (255 : Int32).toInt = 255 from rfl) e3).mp c
      have ek : k = 254 := by omega
      subst ek
      rw [e2]
      exact hQ
    · have c := (not_congr (i_le (show (255 : Int32).toInt = 255 from rfl) e3)).mp c
      have s3 : v3 = Int32.ofNat (k + 1) := (i_eq e3 (i_nI (n := k + 1) (by omega))).mpr rfl
      refine ⟨9, fo_L19 w v0 d6 h6 D eD hD v1 v2 v3 (fun x3 ex3 => ?_) 9 0 0 0 rfl (by omega) rfl (by omega)⟩
      refine ih (k + 1) _ x3 ?_ (by omega) ?_ (by omega)
      · rw [ex3]; exact (i_add e3 (show (1 : Int32).toInt = 1 from rfl) (by omega) (by omega)).trans (by omega)
      · rw [e2, s3]
        rfl
theorem s17_X11_fewestOver {Z : jZ} {I : jI} {L : jL} (w : WD Z I) (v0 : Nat) (v1 : Int32) (d6 : Nat) (h6 : jr Z v0 6 = some d6) (D : Nat → Int) (eD : ∀ i, i < 8 → (I d6 i).toInt = D i) (hD : ∀ i, i < 8 → 0 ≤ D i ∧ D i ≤ 720) {Q : Int32 → jI → jL → Prop} (hQ : Q (fwC (BS D) v1.toInt 254) I L) : f_X11_fewestOver v0 v1 Z I L Q := by
  unfold f_X11_fewestOver
  exact ⟨255, fo_L6 w v0 d6 h6 D eD hD v1 hQ 255 0 255 1 rfl (by omega) rfl (by omega)⟩
/-! ===== rules: the reference ===== -/
/-- who is MAIN -/
def mnR (T : Nat → Int32) (s : Nat) : Nat := amx (fun i => (T (8 * s + i)).toInt) 7
theorem mo_L4 {Z : jZ} {I : jI} {L : jL} (v0 : Nat) (u5 : Nat) (h5 : jr Z v0 5 = some u5) (v1 : Int32) (s : Nat) (e1 : v1.toInt = (s : Int)) (hs : s < 24) {Q : Int32 → jI → jL → Prop} (hQ : ∀ r : Int32, r.toInt = (mnR (I u5) s : Int) → Q r I L) :
    ∀ (n k : Nat) (v2 v3 : Int32), v3.toInt = ((k + 1 : Nat) : Int) → k ≤ 7 → v2.toInt = (amx (fun i => (I u5 (8 * s + i)).toInt) k : Int) → 8 ≤ n + k → f_X12_mainOf_L4 Z Q n v0 v1 v2 v3 I L := by
  have e8 : ((8 : Int32) * v1).toInt = 8 * (s : Int) := i_mul (show (8 : Int32).toInt = 8 from rfl) e1 (by omega) (by omega)
  intro n
  induction n with
  | zero => intro k v2 v3 e3 hk e2 hn; exfalso; omega
  | succ n ih =>
    intro k v2 v3 e3 hk e2 hn
    have la := amx_le (fun i => (I u5 (8 * s + i)).toInt) k
    unfold f_X12_mainOf_L4
    refine ⟨fun c => ?_, fun c => ?_⟩
    · have c := (i_le (show (8 : Int32).toInt = 8 from rfl) e3).mp c
      have ek : k = 7 := by omega
      subst ek
      exact hQ v2 e2
    · have c := (not_congr (i_le (show (8 : Int32).toInt = 8 from rfl) e3)).mp c
      intro b3 hb3
      cases h5.symm.trans hb3
      have a3 : (((8 : Int32) * v1) + v3).toInt = 8 * (s : Int) + ((k + 1 : Nat) : Int) := i_add e8 e3 (by omega) (by omega)
      have a2 : (((8 : Int32) * v1) + v2).toInt = 8 * (s : Int) + (amx (fun i => (I u5 (8 * s + i)).toInt) k : Int) := i_add e8 e2 (by omega) (by omega)
      refine ⟨vi_of a3 (by omega) (by omega), ?_⟩
      intro b5 hb5
      cases h5.symm.trans hb5
      refine ⟨vi_of a2 (by omega) (by omega), ?_⟩
      have q3 : (((8 : Int32) * v1) + v3).toNatClampNeg = 8 * s + (k + 1) := by have := i_nat a3 (by omega); omega
      have q2 : (((8 : Int32) * v1) + v2).toNatClampNeg = 8 * s + amx (fun i => (I u5 (8 * s + i)).toInt) k := by have := i_nat a2 (by omega); omega
      rw [q3, q2]
      have st : ∀ x1 : Int32, x1 = v3 + 1 → x1.toInt = ((k + 1 + 1 : Nat) : Int) := fun x1 e => by rw [e]; exact (i_add e3 (show (1 : Int32).toInt = 1 from rfl) (by omega) (by omega)).trans (by omega)
      refine ⟨fun c2 => ?_, fun c2 => ?_⟩
      · have c2 := (i_le rfl rfl).mp c2
        unfold f_X12_mainOf_b37
        intro x1 ex1
        refine ih (k + 1) v2 x1 (st x1 ex1) (by omega) ?_ (by omega)
        show v2.toInt = ((if (I u5 (8 * s + amx (fun i => (I u5 (8 * s + i)).toInt) k)).toInt < (I u5 (8 * s + (k + 1))).toInt then k + 1 else amx (fun i => (I u5 (8 * s + i)).toInt) k : Nat) : Int)
        rw [if_neg (by omega)]
        exact e2
      · have c2 := (not_congr (i_le rfl rfl)).mp c2
        unfold f_X12_mainOf_b37
        intro x1 ex1
        refine ih (k + 1) v3 x1 (st x1 ex1) (by omega) ?_ (by omega)
        show v3.toInt = ((if (I u5 (8 * s + amx (fun i => (I u5 (8 * s + i)).toInt) k)).toInt < (I u5 (8 * s + (k + 1))).toInt then k + 1 else amx (fun i => (I u5 (8 * s + i)).toInt) k : Nat) : Int)
        rw [if_pos (by omega)]
        exact e3
theorem s17_X12_mainOf {Z : jZ} {I : jI} {L : jL} (v0 : Nat) (v1 : Int32) (u5 : Nat) (h5 : jr Z v0 5 = some u5) (s : Nat) (e1 : v1.toInt = (s : Int)) (hs : s < 24) {Q : Int32 → jI → jL → Prop} (hQ : ∀ r : Int32, r.toInt = (mnR (I u5) s : Int) → Q r I L) : f_X12_mainOf v0 v1 Z I L Q := by
  unfold f_X12_mainOf
  exact ⟨8, mo_L4 v0 u5 h5 v1 s e1 hs hQ 8 0 0 1 rfl (by omega) rfl (by omega)⟩
/-- what a set has: PARTS of a STEP (0), STEPS whose MAIN is in it (1) -/
def SM (T : Nat → Int32) (n : Nat) (v1 v2 : Int32) (b : Int32) : Int := if v1 = 0 then BS (fun k => (T (8 * v2.toNatClampNeg + k)).toInt) b else shS (fun s => if hbt b (mnR T s) = true then 1 else 0) n
theorem ru_b167 {Z : jZ} {I : jI} {L : jL} (w : WD Z I) (v0 : Nat) (v1 v2 v3 v4 s0 s1 : Int32) (S all : Int) (e0 : s0.toInt = 2 * S) (e1 : s1.toInt = all) {K : Nat → Int32 → Int32 → Int32 → Int32 → jI → jL → Prop} {Q : Int32 → jI → jL → Prop}
    (hK : ∀ x4 : Int32, x4 = v4 + 1 → K v0 v1 v2 (if all < 2 * S ∧ (v3 = 0 ∨ (bcV v4).toInt < (bcV v3).toInt) then v4 else v3) x4 I L) : f_X12_rules_b167 K Z Q v0 v1 v2 v3 v4 s0 s1 I L := by
  unfold f_X12_rules_b167 f_X12_rules_b189 f_X12_rules_b192
  refine ⟨fun c => ⟨fun c2 x1 ex1 => ?_, fun c2 => ?_⟩, fun c x1 ex1 => ?_⟩
  · have c := (i_lt e1 e0).mp c
    have g := hK x1 ex1
    rw [if_pos ⟨c, Or.inl c2⟩] at g
    exact g
  · have c := (i_lt e1 e0).mp c
    refine s_J6_bitCount_0f7a4 w v4 (fun r10 p10 => ?_)
    refine s_J6_bitCount_0f7a4 w v3 (fun r17 p17 => ?_)
    refine ⟨fun c3 x1 ex1 => ?_, fun c3 x1 ex1 => ?_⟩
    · have c3 := (i_le rfl rfl).mp c3
      rw [p10.1, p17.1] at c3
      have g := hK x1 ex1
      rw [if_neg (fun x => x.2.elim c2 (fun y => by omega))] at g
      exact g
    · have c3 := (not_congr (i_le rfl rfl)).mp c3
      rw [p10.1, p17.1] at c3
      have g := hK x1 ex1
      rw [if_pos ⟨c, Or.inr (by omega)⟩] at g
      exact g
  · have c := (not_congr (i_lt e1 e0)).mp c
    have g := hK x1 ex1
    rw [if_neg (fun x => c x.1)] at g
    exact g
/-- the STEPS -/
theorem ru_L105 {Z : jZ} {I : jI} {L : jL} (w : WD Z I) (v0 : Nat) (u5 : Nat) (h5 : jr Z v0 5 = some u5) (m : Nat) (em : (I v0 0).toInt = (m : Int)) (hm : m ≤ 24) (v1 v2 v3 v4 : Int32) (hv1 : v1 = 0 ∨ v1 = 1) (S0 : Int) (hS0 : 0 ≤ S0 ∧ S0 ≤ 5760) (S : Int) (eS : S = S0 + (if v1 = 0 then 0 else shS (fun s => if hbt v4 (mnR (I u5) s) = true then 1 else 0) m)) {K : Nat → Int32 → Int32 → Int32 → Int32 → jI → jL → Prop} {Q : Int32 → jI → jL → Prop}
    (hK : ∀ x4 : Int32, x4 = v4 + 1 → K v0 v1 v2 (if (if v1 = 0 then 720 else (m : Int)) < 2 * S ∧ (v3 = 0 ∨ (bcV v4).toInt < (bcV v3).toInt) then v4 else v3) x4 I L) :
    ∀ (n j : Nat) (v5 v6 : Int32), v6.toInt = (j : Int) → j ≤ m → v5.toInt = S0 + (if v1 = 0 then 0 else shS (fun s => if hbt v4 (mnR (I u5) s) = true then 1 else 0) j) → 25 ≤ n + j → f_X12_rules_L105 K Z Q n v0 v1 v2 v3 v4 v5 v6 I L := by
  have bd : ∀ j : Nat, 0 ≤ shS (fun s => if hbt v4 (mnR (I u5) s) = true then (1 : Int) else 0) j ∧ shS (fun s => if hbt v4 (mnR (I u5) s) = true then (1 : Int) else 0) j ≤ (j : Int) := by
    intro j
    induction j with
    | zero => exact ⟨Int.le_refl 0, Int.le_refl 0⟩
    | succ j ih =>
      show 0 ≤ shS (fun s => if hbt v4 (mnR (I u5) s) = true then (1 : Int) else 0) j + (if hbt v4 (mnR (I u5) j) = true then (1 : Int) else 0) ∧ shS (fun s => if hbt v4 (mnR (I u5) s) = true then (1 : Int) else 0) j + (if hbt v4 (mnR (I u5) j) = true then (1 : Int) else 0) ≤ ((j + 1 : Nat) : Int)
      split <;> omega
  have n01 : ¬ (0 : Int32) = 1 := by decide
  have n10 : ¬ (1 : Int32) = 0 := by decide
  intro n
  induction n with
  | zero => intro j v5 v6 e6 hj e5 hn; exfalso; omega
  | succ n ih =>
    intro j v5 v6 e6 hj e5 hn
    have bj := bd j
    have b5 : 0 ≤ v5.toInt ∧ v5.toInt ≤ 5784 := by
      rw [e5]
      split <;> omega
    have nx : ∀ x : Int32, x = v6 + 1 → x.toInt = ((j + 1 : Nat) : Int) := fun x e => by
      rw [e]
      exact (i_add e6 (show (1 : Int32).toInt = 1 from rfl) (by have := hm; omega) (by omega)).trans (by omega)
    unfold f_X12_rules_L105
    refine ⟨fun c => ?_, fun c => ?_⟩
    · have c := (i_le em e6).mp c
      have ej : j = m := by omega
      subst ej
      have e2 : ((2 : Int32) * v5).toInt = 2 * S := by rw [i_mul (show (2 : Int32).toInt = 2 from rfl) rfl (by omega) (by omega), e5, eS]
      refine ⟨fun c1 => ?_, fun c1 => ?_⟩
      · refine ru_b167 w v0 v1 v2 v3 v4 _ _ S (j : Int) e2 em (fun x4 ex4 => ?_)
        have g := hK x4 ex4
        rw [if_neg c1] at g
        exact g
      · refine ru_b167 w v0 v1 v2 v3 v4 _ _ S 720 e2 rfl (fun x4 ex4 => ?_)
        have g := hK x4 ex4
        rw [if_pos c1] at g
        exact g
    · have c := (not_congr (i_le em e6)).mp c
      refine ⟨fun c1 => ?_, fun c1 => ?_⟩
      · have z : v1 = 0 := hv1.resolve_right c1
        unfold f_X12_rules_b139 f_X12_rules_b140
        intro x19 e19 x20 e20
        refine ih (j + 1) x19 x20 (nx x20 e20) (by omega) ?_ (by omega)
        rw [e19, if_pos z, i_add rfl (show (0 : Int32).toInt = 0 from rfl) (by omega) (by omega), e5, if_pos z]
        omega
      · have z : ¬ v1 = 0 := by rw [c1]; exact n10
        refine s17_X12_mainOf v0 v6 u5 h5 j e6 (by omega) (fun r30 p30 => ?_)
        have s30 : r30 = Int32.ofNat (mnR (I u5) j) := (i_eq p30 (i_nI (n := mnR (I u5) j) (by have := amx_le (fun i => (I u5 (8 * j + i)).toInt) 7; unfold mnR; omega))).mpr rfl
        refine x12_has s30 (fun hb => ?_) (fun hb => ?_)
        · refine ⟨fun c2 => absurd c2 n10, fun c2 => ?_⟩
          unfold f_X12_rules_b140
          intro x19 e19 x20 e20
          refine ih (j + 1) x19 x20 (nx x20 e20) (by omega) ?_ (by omega)
          rw [e19, if_neg z, i_add rfl (show (1 : Int32).toInt = 1 from rfl) (by omega) (by omega), e5, if_neg z]
          show _ = S0 + (shS (fun s => if hbt v4 (mnR (I u5) s) = true then (1 : Int) else 0) j + (if hbt v4 (mnR (I u5) j) = true then (1 : Int) else 0))
          rw [if_pos hb]
          omega
        · refine ⟨fun c2 => ?_, fun c2 => absurd rfl c2⟩
          unfold f_X12_rules_b139 f_X12_rules_b140
          intro x19 e19 x20 e20
          refine ih (j + 1) x19 x20 (nx x20 e20) (by omega) ?_ (by omega)
          rw [e19, if_neg z, i_add rfl (show (0 : Int32).toInt = 0 from rfl) (by omega) (by omega), e5, if_neg z]
          show _ = S0 + (shS (fun s => if hbt v4 (mnR (I u5) s) = true then (1 : Int) else 0) j + (if hbt v4 (mnR (I u5) j) = true then (1 : Int) else 0))
          rw [hb, if_neg (by decide)]
          omega
/-- the FAMILIES -/
theorem ru_L54 {Z : jZ} {I : jI} {L : jL} (w : WD Z I) (v0 : Nat) (u5 : Nat) (h5 : jr Z v0 5 = some u5) (m : Nat) (em : (I v0 0).toInt = (m : Int)) (hm : m ≤ 24) (ok : ∀ z, z < 8 * m → 0 ≤ (I u5 z).toInt ∧ (I u5 z).toInt ≤ 720) (v1 v2 v3 v4 : Int32) (hv1 : v1 = 0 ∨ v1 = 1) (hv2 : v1 = 0 → 0 ≤ v2.toInt ∧ v2.toInt < (m : Int)) {K : Nat → Int32 → Int32 → Int32 → Int32 → jI → jL → Prop} {Q : Int32 → jI → jL → Prop}
    (hK : ∀ x4 : Int32, x4 = v4 + 1 → K v0 v1 v2 (if (if v1 = 0 then 720 else (m : Int)) < 2 * SM (I u5) m v1 v2 v4 ∧ (v3 = 0 ∨ (bcV v4).toInt < (bcV v3).toInt) then v4 else v3) x4 I L) :
    ∀ (n k : Nat) (v5 v6 : Int32), v6.toInt = (k : Int) → k ≤ 8 → v5.toInt = (if v1 = 0 then shS (fun k => if hbt v4 k = true then (I u5 (8 * v2.toNatClampNeg + k)).toInt else 0) k else 0) → 9 ≤ n + k → f_X12_rules_L54 K Z Q n v0 v1 v2 v3 v4 v5 v6 I L := by
  have n10 : ¬ (1 : Int32) = 0 := by decide
  intro n
  induction n with
  | zero => intro k v5 v6 e6 hk e5 hn; exfalso; omega
  | succ n ih =>
    intro k v5 v6 e6 hk e5 hn
    have b5 : 0 ≤ v5.toInt ∧ v5.toInt ≤ 5760 := by
      rw [e5]
      by_cases z : v1 = 0
      · rw [if_pos z]
        have h2 := hv2 z
        have q2 := i_nat (x := v2) rfl h2.1
        have := BS_bd (D := fun k => (I u5 (8 * v2.toNatClampNeg + k)).toInt) (fun i hi => ok _ (by omega)) v4 k hk
        omega
      · rw [if_neg z]; omega
    have nx : ∀ x : Int32, x = v6 + 1 → k < 8 → x.toInt = ((k + 1 : Nat) : Int) := fun x e h => by
      rw [e]
      exact (i_add e6 (show (1 : Int32).toInt = 1 from rfl) (by omega) (by omega)).trans (by omega)
    unfold f_X12_rules_L54
    refine ⟨fun c => ?_, fun c => ?_⟩
    · have c := (i_le (show (8 : Int32).toInt = 8 from rfl) e6).mp c
      have ek : k = 8 := by omega
      subst ek
      refine ⟨25, ru_L105 w v0 u5 h5 m em hm v1 v2 v3 v4 hv1 v5.toInt b5 (SM (I u5) m v1 v2 v4) ?_ hK 25 0 v5 0 rfl (by omega) ?_ (by omega)⟩
      · unfold SM
        by_cases z : v1 = 0
        · rw [if_pos z, if_pos z, e5, if_pos z, Int.add_zero]; rfl
        · rw [if_neg z, if_neg z, e5, if_neg z, Int.zero_add]
      · by_cases z : v1 = 0
        · rw [if_pos z, Int.add_zero]
        · rw [if_neg z]
          show _ = v5.toInt + 0
          rw [Int.add_zero]
    · have c := (not_congr (i_le (show (8 : Int32).toInt = 8 from rfl) e6)).mp c
      refine ⟨fun c1 => ?_, fun c1 => ?_⟩
      · unfold f_X12_rules_b92 f_X12_rules_b93
        intro x39 e39 x40 e40
        refine ih (k + 1) x39 x40 (nx x40 e40 (by omega)) (by omega) ?_ (by omega)
        rw [e39, if_neg c1, i_add rfl (show (0 : Int32).toInt = 0 from rfl) (by omega) (by omega), e5, if_neg c1]
        rfl
      · have h2 := hv2 c1
        have q2 := i_nat (x := v2) rfl h2.1
        have s6 : v6 = Int32.ofNat k := (i_eq e6 (i_nI (n := k) (by omega))).mpr rfl
        rw [if_pos c1] at e5
        refine x12_has s6 (fun hb => ?_) (fun hb => ?_)
        · refine ⟨fun c2 => absurd c2 n10, fun c2 => ?_⟩
          intro b52 hb52
          cases h5.symm.trans hb52
          have a2 : (((8 : Int32) * v2) + v6).toInt = 8 * v2.toInt + (k : Int) := i_add (i_mul (show (8 : Int32).toInt = 8 from rfl) rfl (by omega) (by omega)) e6 (by omega) (by omega)
          have qa : (((8 : Int32) * v2) + v6).toNatClampNeg = 8 * v2.toNatClampNeg + k := by have := i_nat a2 (by omega); omega
          have o := ok (8 * v2.toNatClampNeg + k) (by omega)
          refine ⟨vi_of a2 (by omega) (by omega), ?_⟩
          unfold f_X12_rules_b93
          intro x39 e39 x40 e40
          rw [qa] at e39
          refine ih (k + 1) x39 x40 (nx x40 e40 (by omega)) (by omega) ?_ (by omega)
          rw [e39, if_pos c1, i_add e5 rfl (by omega) (by omega)]
          show _ = shS (fun k => if hbt v4 k = true then (I u5 (8 * v2.toNatClampNeg + k)).toInt else 0) k + (if hbt v4 k = true then (I u5 (8 * v2.toNatClampNeg + k)).toInt else 0)
          rw [if_pos hb]
        · refine ⟨fun c2 => ?_, fun c2 => absurd rfl c2⟩
          unfold f_X12_rules_b92 f_X12_rules_b93
          intro x39 e39 x40 e40
          refine ih (k + 1) x39 x40 (nx x40 e40 (by omega)) (by omega) ?_ (by omega)
          rw [e39, if_pos c1, i_add e5 (show (0 : Int32).toInt = 0 from rfl) (by omega) (by omega)]
          show _ = shS (fun k => if hbt v4 k = true then (I u5 (8 * v2.toNatClampNeg + k)).toInt else 0) k + (if hbt v4 k = true then (I u5 (8 * v2.toNatClampNeg + k)).toInt else 0)
          rw [hb, if_neg (by decide)]
/-! ===== rules: all sets, the reference ===== -/
def RULo (n : Nat) (v1 v2 : Int32) : Prop := 1 ≤ n ∧ (0 ≤ v1.toInt ∧ v1.toInt ≤ 1) ∧ (v1 = 0 → 0 ≤ v2.toInt ∧ v2.toInt < (n : Int))
def RULm (T : Nat → Int32) (n : Nat) (v1 v2 r : Int32) : Prop := (¬ RULo n v1 v2 ∧ r.toInt = -1) ∨ (RULo n v1 v2 ∧ r = bcV (fwM (SM T n v1 v2) (if v1 = 0 then 720 else (n : Int)) 255))
theorem ru_L40 {Z : jZ} {I : jI} {L : jL} (w : WD Z I) (v0 : Nat) (kv0 : jk Z v0 12) (u5 : Nat) (h5 : jr Z v0 5 = some u5) (m : Nat) (em : (I v0 0).toInt = (m : Int)) (hm : m ≤ 24) (ok : ∀ z, z < 8 * m → 0 ≤ (I u5 z).toInt ∧ (I u5 z).toInt ≤ 720) (v1 v2 : Int32) (hv1 : v1 = 0 ∨ v1 = 1) (hv2 : v1 = 0 → 0 ≤ v2.toInt ∧ v2.toInt < (m : Int)) {Q : Int32 → jI → jL → Prop}
    (hQ : ∀ (r : Int32) (I' : jI) (L' : jL), WD Z I' → FR Ws_X12_tell Z I Z I' → r = bcV (fwM (SM (I u5) m v1 v2) (if v1 = 0 then 720 else (m : Int)) 255) → Q r I' L') :
    ∀ (n k : Nat) (v3 v4 : Int32), v4.toInt = ((k + 1 : Nat) : Int) → k ≤ 255 → v3 = fwM (SM (I u5) m v1 v2) (if v1 = 0 then 720 else (m : Int)) k → 256 ≤ n + k → f_X12_rules_L40 Z Q n v0 v1 v2 v3 v4 I L := by
  intro n
  induction n with
  | zero => intro k v3 v4 e4 hk e3 hn; exfalso; omega
  | succ n ih =>
    intro k v3 v4 e4 hk e3 hn
    unfold f_X12_rules_L40
    refine ⟨fun c => ?_, fun c => ?_⟩
    · have c := (i_le (show (256 : Int32).toInt = 256 from rfl) e4).mp c
      have ek : k = 255 := by omega
      subst ek
      intro I1 e1
      have w1 : WD Z I1 := by rw [e1]; exact WD_putF w 12 21 kv0 (by decide) (by decide) (show rg 0 40 _ from ⟨by decide, by decide⟩)
      have f1 : FR Ws_X12_tell Z I Z I1 := by rw [e1]; exact FR_putF kv0 (by decide) (by decide)
      refine s_X12_tell w1 v0 _ kv0 (by rw [e1, jpI_at]; decide) (fun I2 L2 w2 f2 _ => ?_)
      refine s_J6_bitCount_0f7a4 w2 v3 (fun r p => ?_)
      exact hQ r I2 L2 w2 (f1.trans w.1 w.2.1 f2) (by rw [p.1, e3])
    · have c := (not_congr (i_le (show (256 : Int32).toInt = 256 from rfl) e4)).mp c
      have s4 : v4 = Int32.ofNat (k + 1) := (i_eq e4 (i_nI (n := k + 1) (by omega))).mpr rfl
      refine ⟨9, ru_L54 w v0 u5 h5 m em hm ok v1 v2 v3 v4 hv1 hv2 (fun x4 ex4 => ?_) 9 0 0 0 rfl (by omega) ?_ (by omega)⟩
      · refine ih (k + 1) _ x4 ?_ (by omega) ?_ (by omega)
        · rw [ex4]; exact (i_add e4 (show (1 : Int32).toInt = 1 from rfl) (by omega) (by omega)).trans (by omega)
        · rw [e3, s4]
          rfl
      · split <;> rfl
theorem s17_X12_rules {Z : jZ} {I : jI} {L : jL} (w : WD Z I) (v0 : Nat) (v1 v2 : Int32) (kv0 : jk Z v0 12) (u5 u53 u54 : Nat) (pm : PMs Z v0 u5 u53 u54) (n : Nat) (en : (I v0 0).toInt = (n : Int)) (ok : OWP n (I u5)) {Q : Int32 → jI → jL → Prop} (hQ : ∀ (r : Int32) (I' : jI) (L' : jL), WD Z I' → FR Ws_X12_rules Z I Z I' → RULm (I u5) n v1 v2 r → Q r I' L') : f_X12_rules v0 v1 v2 Z I L Q := by
  obtain ⟨h5, k5, -⟩ := pm
  have t0 : 0 ≤ (I v0 0).toInt ∧ (I v0 0).toInt ≤ 24 := w.fld 12 0 kv0 (by decide)
  have z0 : (0 : Int32).toInt = 0 := rfl
  have z1 : (1 : Int32).toInt = 1 := rfl
  unfold f_X12_rules
  intro I1 e1
  have w1 : WD Z I1 := by rw [e1]; exact WD_putF w 12 22 kv0 (by decide) (by decide) trivial
  have f1 : FR Ws_X12_rules Z I Z I1 := by rw [e1]; exact FR_putF kv0 (by decide) (by decide)
  have s0 : (I1 v0 0).toInt = (n : Int) := by rw [e1, jpI_o (by decide)]; exact en
  have o5 : I1 u5 = I u5 := by rw [e1]; exact jpI_ne (ks_ne k5 kv0 (by decide))
  have bad : ∀ L', ¬ RULo n v1 v2 → Q (-1 : Int32) I1 L' := fun L' h => hQ _ I1 L' w1 f1 (Or.inl ⟨h, rfl⟩)
  have go : 1 ≤ n → (0 ≤ v1.toInt ∧ v1.toInt ≤ 1) → (v1 = 0 → 0 ≤ v2.toInt ∧ v2.toInt < (n : Int)) → f_X12_rules_b35 Z Q v0 v1 v2 I1 L := by
    intro a1 a2 a3
    have hv1 : v1 = 0 ∨ v1 = 1 := by
      rcases (show v1.toInt = 0 ∨ v1.toInt = 1 by omega) with h | h
      · exact Or.inl ((i_eq h z0).mpr rfl)
      · exact Or.inr ((i_eq h z1).mpr rfl)
    unfold f_X12_rules_b35
    refine ⟨256, ru_L40 w1 v0 kv0 u5 h5 n s0 (by omega) (fun z hz => by rw [o5]; exact OWP_le ok hz) v1 v2 hv1 a3 (fun r I2 L2 w2 f2 hr => ?_) 256 0 0 1 rfl (by omega) rfl (by omega)⟩
    rw [o5] at hr
    exact hQ r I2 L2 w2 (f1.trans w.1 w.2.1 (f2.mono (by decide))) (Or.inr ⟨⟨a1, a2, a3⟩, hr⟩)
  refine ⟨fun c => bad _ (fun h => by have c := yz c; have := h.1; omega), fun c => ?_⟩
  have c := nz c
  refine s_X12_in w1 _ _ _ (fun r p => ⟨fun c2 => bad _ (fun h => by have c2 := yz c2; have := h.2.1; omega), fun c2 => ?_⟩)
  have c2 := nz c2
  refine ⟨fun c3 => go (by omega) (by omega) (fun e => absurd e c3), fun c3 => ?_⟩
  refine s_X12_isStep w1 v0 v2 kv0 (fun r2 p2 => ⟨fun c4 => ?_, fun c4 => ?_⟩)
  · have c4 := nz c4
    exact go (by omega) (by omega) (fun _ => by omega)
  · have c4 := yz c4
    refine bad _ (fun h => ?_)
    have := h.2.2 c3
    omega
/-! the class: a STEP's PARTS into the division -/
theorem si_L2 {Z : jZ} {J : jI} (wJ : WD Z J) (v0 : Nat) (k0 : jk Z v0 4) (x0 : Nat) (h0 : jr Z v0 0 = some x0) (kx : jk Z x0 14) (o : Nat) (ko : jk Z o 11) (d6 : Nat) (h6 : jr Z o 6 = some d6) (k6 : jk Z d6 14) (l6 : jlen Z d6 = 8) (v1 : Int32) (s : Nat) (e1 : v1.toInt = (s : Int)) (hs : s < 24) {Q : jI → jL → Prop}
    (hQ : ∀ (I : jI) (L : jL), WD Z I → FR [(11, 6)] Z J Z I → (∀ f, f < 8 → I d6 f = J x0 (8 * s + f)) → Q I L) :
    ∀ (n f : Nat) (v3 : Int32) (I : jI) (L : jL), WD Z I → FR [(11, 6)] Z J Z I → v3.toInt = (f : Int) → f ≤ 8 → (∀ i, i < f → I d6 i = J x0 (8 * s + i)) → 9 ≤ n + f → f_X4_shareInto_L2 Z Q n v0 v1 d6 v3 I L := by
  have zn : (nI (jlen Z d6)).toInt = 8 := by rw [l6]; exact i_nI (n := 8) (by omega)
  intro n
  induction n with
  | zero => intro f v3 I L w fr e3 hf h1 hn; exfalso; omega
  | succ n ih =>
    intro f v3 I L w fr e3 hf h1 hn
    have y0 : I x0 = J x0 := fr.2.2.2 v0 4 0 x0 k0 h0 (by rw [kx.2]; rfl) rfl (by decide)
    unfold f_X4_shareInto_L2
    refine ⟨fun c => ?_, fun c => ⟨fun c2 => ?_, fun c2 => ?_⟩⟩
    · have c := (i_le (show (8 : Int32).toInt = 8 from rfl) e3).mp c
      exact hQ I L w fr (fun f' hf' => h1 f' (by omega))
    · have c2 := (i_le zn e3).mp c2
      exact hQ I L w fr (fun f' hf' => h1 f' (by omega))
    · have c := (not_congr (i_le (show (8 : Int32).toInt = 8 from rfl) e3)).mp c
      have q3 : v3.toNatClampNeg = f := by have := i_nat e3 (by omega); omega
      refine s15_X4_shareOf w v0 v1 v3 k0 x0 h0 s f e1 e3 hs (by omega) ?_
      refine ⟨by rw [l6]; exact vi_of e3 (by omega) (by omega), ?_⟩
      intro I11 e11 x12 e12
      rw [q3, y0] at e11
      refine ih (f + 1) x12 I11 L ?_ ?_ ?_ (by omega) (fun i hi => ?_) (by omega)
      · rw [e11]; exact WD_putA w 11 6 ko h6 k6 rfl rfl (by decide) trivial
      · refine fr.trans wJ.1 wJ.2.1 ?_
        rw [e11]; exact FR_upA w.2.1 ko h6 k6 rfl rfl List.mem_cons_self
      · rw [e12]; exact (i_add e3 (show (1 : Int32).toInt = 1 from rfl) (by omega) (by omega)).trans (by omega)
      · by_cases hif : i = f
        · rw [hif, e11, jpI_at]
        · rw [e11, jpI_off hif]; exact h1 i (by omega)
end
section
/-! ===== the class keeps who is MAIN ===== -/
def MAI (I : jI) (x0 x1 : Nat) : Prop := ∀ s, s < 24 → (I x1 s).toInt = (mnR (I x0) s : Int)
theorem amx_cg8 {r r' : Nat → Int} : ∀ k, (∀ i, i ≤ k → r' i = r i) → amx r' k = amx r k := by
  intro k
  induction k with
  | zero => intro _; rfl
  | succ k ih =>
    intro h
    have e := ih (fun i hi => h i (by omega))
    have la := amx_le r k
    show (if r' (amx r' k) < r' (k + 1) then k + 1 else amx r' k) = if r (amx r k) < r (k + 1) then k + 1 else amx r k
    rw [e, h _ (by omega), h (k + 1) (Nat.le_refl _)]
theorem mnR_cg {T T' : Nat → Int32} {s : Nat} (h : ∀ i, i < 8 → T' (8 * s + i) = T (8 * s + i)) : mnR T' s = mnR T s := amx_cg8 7 (fun i hi => by
  show (T' (8 * s + i)).toInt = (T (8 * s + i)).toInt
  rw [h i (by omega)])
theorem mnR_le {T : Nat → Int32} {s : Nat} : mnR T s ≤ 7 := amx_le _ 7
/-- the arrays of the shares -/
theorem shr_at {Z : jZ} {I : jI} {a : Nat} (w : WD Z I) (ka : jk Z a 4) : ∃ x0 x1 x2, jr Z a 0 = some x0 ∧ jr Z a 1 = some x1 ∧ jr Z a 2 = some x2 ∧ jk Z x0 14 ∧ jk Z x1 14 ∧ jk Z x2 14 ∧ jlen Z x0 = 192 ∧ jlen Z x1 = 24 ∧ jlen Z x2 = 1536 ∧ x0 ≠ x1 ∧ x0 ≠ x2 ∧ x1 ≠ x2 ∧ a ≠ x0 ∧ a ≠ x1 ∧ a ≠ x2 := by
  obtain ⟨x0, e0, k0, l0⟩ := sh_f w.1 ka (j := 0) (k := 14) (m := 192) rfl
  obtain ⟨x1, e1, k1, l1⟩ := sh_f w.1 ka (j := 1) (k := 14) (m := 24) rfl
  obtain ⟨x2, e2, k2, l2⟩ := sh_f w.1 ka (j := 2) (k := 14) (m := 1536) rfl
  have un : ∀ i j b b', jr Z a i = some b → jr Z a j = some b' → i ≠ j → b ≠ b' := fun i j b b' h1 h2 hn q => by
    subst q
    exact hn (w.2.1.2.2 a 4 i a 4 j b ka ka h1 h2 rfl rfl).2
  exact ⟨x0, x1, x2, e0, e1, e2, k0, k1, k2, l0, l1, l2, un 0 1 _ _ e0 e1 (by decide), un 0 2 _ _ e0 e2 (by decide), un 1 2 _ _ e1 e2 (by decide), ks_ne ka k0 (by decide), ks_ne ka k1 (by decide), ks_ne ka k2 (by decide)⟩
theorem mai_L4 {Z : jZ} {I : jI} {L : jL} (v0 x0 x1 : Nat) (h0 : jr Z v0 0 = some x0) (h1 : jr Z v0 1 = some x1) (v1 : Int32) (s : Nat) (e1 : v1.toInt = (s : Int)) (hs : s < 24) {Q : jI → jL → Prop} (hQ : ∀ r : Int32, r.toInt = (mnR (I x0) s : Int) → Q (jpI I x1 s r) L) :
    ∀ (n k : Nat) (v2 v3 : Int32), v3.toInt = ((k + 1 : Nat) : Int) → k ≤ 7 → v2.toInt = (amx (fun i => (I x0 (8 * s + i)).toInt) k : Int) → 8 ≤ n + k → f_X4_findMain_L4 Z Q n v0 v1 v2 v3 I L := by
  have e8 : (v1 * (8 : Int32)).toInt = (s : Int) * 8 := i_mul e1 (show (8 : Int32).toInt = 8 from rfl) (by omega) (by omega)
  intro n
  induction n with
  | zero => intro k v2 v3 e3 hk e2 hn; exfalso; omega
  | succ n ih =>
    intro k v2 v3 e3 hk e2 hn
    have la := amx_le (fun i => (I x0 (8 * s + i)).toInt) k
    unfold f_X4_findMain_L4
    refine ⟨fun c => ?_, fun c => ?_⟩
    · have c := (i_le (show (8 : Int32).toInt = 8 from rfl) e3).mp c
      have ek : k = 7 := by omega
      subst ek
      intro b hb
      cases h1.symm.trans hb
      refine ⟨vi_of e1 (by omega) (by omega), fun I5 e5 => ?_⟩
      have n1 := i_nat e1 (by omega)
      rw [e5, show v1.toNatClampNeg = s by omega]
      exact hQ v2 e2
    · have c := (not_congr (i_le (show (8 : Int32).toInt = 8 from rfl) e3)).mp c
      intro b3 hb3
      cases h0.symm.trans hb3
      have a3 : ((v1 * (8 : Int32)) + v3).toInt = (s : Int) * 8 + ((k + 1 : Nat) : Int) := i_add e8 e3 (by omega) (by omega)
      have a2 : ((v1 * (8 : Int32)) + v2).toInt = (s : Int) * 8 + (amx (fun i => (I x0 (8 * s + i)).toInt) k : Int) := i_add e8 e2 (by omega) (by omega)
      refine ⟨vi_of a3 (by omega) (by omega), ?_⟩
      intro b5 hb5
      cases h0.symm.trans hb5
      refine ⟨vi_of a2 (by omega) (by omega), ?_⟩
      have q3 : ((v1 * (8 : Int32)) + v3).toNatClampNeg = 8 * s + (k + 1) := by have := i_nat a3 (by omega); omega
      have q2 : ((v1 * (8 : Int32)) + v2).toNatClampNeg = 8 * s + amx (fun i => (I x0 (8 * s + i)).toInt) k := by have := i_nat a2 (by omega); omega
      rw [q3, q2]
      have st : ∀ y : Int32, y = v3 + 1 → y.toInt = ((k + 1 + 1 : Nat) : Int) := fun y e => by rw [e]; exact (i_add e3 (show (1 : Int32).toInt = 1 from rfl) (by omega) (by omega)).trans (by omega)
      refine ⟨fun c2 => ?_, fun c2 => ?_⟩
      · have c2 := (i_le rfl rfl).mp c2
        unfold f_X4_findMain_b40
        intro y ey
        refine ih (k + 1) v2 y (st y ey) (by omega) ?_ (by omega)
        show v2.toInt = ((if (I x0 (8 * s + amx (fun i => (I x0 (8 * s + i)).toInt) k)).toInt < (I x0 (8 * s + (k + 1))).toInt then k + 1 else amx (fun i => (I x0 (8 * s + i)).toInt) k : Nat) : Int)
        rw [if_neg (by omega)]
        exact e2
      · have c2 := (not_congr (i_le rfl rfl)).mp c2
        unfold f_X4_findMain_b40
        intro y ey
        refine ih (k + 1) v3 y (st y ey) (by omega) ?_ (by omega)
        show v3.toInt = ((if (I x0 (8 * s + amx (fun i => (I x0 (8 * s + i)).toInt) k)).toInt < (I x0 (8 * s + (k + 1))).toInt then k + 1 else amx (fun i => (I x0 (8 * s + i)).toInt) k : Nat) : Int)
        rw [if_pos (by omega)]
        exact e3
theorem s18_X4_findMain {Z : jZ} {I : jI} {L : jL} (v0 x0 x1 : Nat) (h0 : jr Z v0 0 = some x0) (h1 : jr Z v0 1 = some x1) (v1 : Int32) (s : Nat) (e1 : v1.toInt = (s : Int)) (hs : s < 24) {Q : jI → jL → Prop} (hQ : ∀ r : Int32, r.toInt = (mnR (I x0) s : Int) → Q (jpI I x1 s r) L) : f_X4_findMain v0 v1 Z I L Q := by
  unfold f_X4_findMain
  exact ⟨8, mai_L4 v0 x0 x1 h0 h1 v1 s e1 hs hQ 8 0 0 1 rfl (by omega) rfl (by omega)⟩
theorem mais_L2 {Z : jZ} {I0 : jI} {L : jL} (v0 x0 x1 : Nat) (h0 : jr Z v0 0 = some x0) (h1 : jr Z v0 1 = some x1) (n01 : x0 ≠ x1) {Q : jI → jL → Prop} (hQ : ∀ I' : jI, (∀ x, x ≠ x1 → I' x = I0 x) → MAI I' x0 x1 → Q I' L) :
    ∀ (n s : Nat) (v1 : Int32) (I : jI), v1.toInt = (s : Int) → s ≤ 24 → 25 ≤ n + s → (∀ x, x ≠ x1 → I x = I0 x) → (∀ t, t < s → (I x1 t).toInt = (mnR (I x0) t : Int)) → f_X4_findMains_L2 Z Q n v0 v1 I L := by
  have z24 : (24 : Int32).toInt = 24 := rfl
  intro n
  induction n with
  | zero => intro s v1 I e1 hs hn; omega
  | succ n ih =>
    intro s v1 I e1 hs hn hx hm
    unfold f_X4_findMains_L2
    refine ⟨fun c => ?_, fun c => ?_⟩
    · have c := (i_le z24 e1).mp c
      exact hQ I hx (fun t ht => hm t (by omega))
    · have c := (not_congr (i_le z24 e1)).mp c
      refine s18_X4_findMain v0 x0 x1 h0 h1 v1 s e1 (by omega) (fun r er => ?_)
      intro y ey
      refine ih (s + 1) y _ (by rw [ey]; exact (i_add e1 (show (1 : Int32).toInt = 1 from rfl) (by omega) (by omega)).trans (by omega)) (by omega) (by omega) (fun x hx1 => (jpI_ne hx1).trans (hx x hx1)) (fun t ht => ?_)
      rw [jpI_ne n01]
      by_cases c2 : t = s
      · rw [c2, jpI_at]; exact er
      · rw [jpI_off c2]; exact hm t (by omega)
theorem s18_X4_findMains {Z : jZ} {I : jI} {L : jL} (v0 x0 x1 : Nat) (h0 : jr Z v0 0 = some x0) (h1 : jr Z v0 1 = some x1) (n01 : x0 ≠ x1) {Q : jI → jL → Prop} (hQ : ∀ I' : jI, (∀ x, x ≠ x1 → I' x = I x) → MAI I' x0 x1 → Q I' L) : f_X4_findMains v0 Z I L Q := by
  unfold f_X4_findMains
  exact ⟨25, mais_L2 v0 x0 x1 h0 h1 n01 hQ 25 0 0 I rfl (by omega) (by omega) (fun _ _ => rfl) (fun t ht => by omega)⟩
theorem s18_X4_move {Z : jZ} {I : jI} {L : jL} (w : WD Z I) (v0 : Nat) (v1 v2 v3 v4 : Int32) (kv0 : jk Z v0 4) (x0 x1 : Nat) (h0 : jr Z v0 0 = some x0) (h1 : jr Z v0 1 = some x1) (hm : MAI I x0 x1) {Q : jI → jL → Prop} (hQ : ∀ (I' : jI), MAI I' x0 x1 → Q I' L) : f_X4_move v0 v1 v2 v3 v4 Z I L Q := by
  obtain ⟨y0, y1, y2, e0, e1, e2, k0, k1, k2, l0, l1, l2, n01, n02, n12, na0, na1, na2⟩ := shr_at w kv0
  cases h0.symm.trans e0; cases h1.symm.trans e1
  have z0 : (0 : Int32).toInt = 0 := rfl
  have z8 : (8 : Int32).toInt = 8 := rfl
  have z24 : (24 : Int32).toInt = 24 := rfl
  unfold f_X4_move
  refine ⟨fun _ => hQ I hm, fun c => ⟨fun _ => hQ I hm, fun c2 => ?_⟩⟩
  have c := (not_congr (i_lt rfl z0)).mp c
  have c2 := (not_congr (i_le z24 rfl)).mp c2
  refine s_X11_isFamily w v2 (fun r p => ⟨fun _ => hQ I hm, fun c3 => ?_⟩)
  have p2 : 0 ≤ v2.toInt ∧ v2.toInt ≤ 7 := by
    rcases p with p | p
    · exact p.2
    · exact absurd ((i_eq rfl z0).mpr p.1) c3
  refine s_X11_isFamily w v3 (fun r' p' => ⟨fun _ => hQ I hm, fun c4 => ?_⟩)
  have p3 : 0 ≤ v3.toInt ∧ v3.toInt ≤ 7 := by
    rcases p' with p | p
    · exact p.2
    · exact absurd ((i_eq rfl z0).mpr p.1) c4
  have a2 : ((v1 * (8 : Int32)) + v2).toInt = v1.toInt * 8 + v2.toInt := i_add (i_mul rfl z8 (by omega) (by omega)) rfl (by omega) (by omega)
  have a3 : ((v1 * (8 : Int32)) + v3).toInt = v1.toInt * 8 + v3.toInt := i_add (i_mul rfl z8 (by omega) (by omega)) rfl (by omega) (by omega)
  have m2 := i_nat a2 (by omega)
  have m3 := i_nat a3 (by omega)
  intro b hb
  cases h0.symm.trans hb
  refine ⟨vi_of a2 (by omega) (by omega), vi_of a2 (by omega) (by omega), fun I22 e22 => ?_⟩
  intro b hb
  cases h0.symm.trans hb
  refine ⟨vi_of a3 (by omega) (by omega), vi_of a3 (by omega) (by omega), fun I26 e26 => ?_⟩
  refine s18_X4_findMain v0 x0 x1 h0 h1 v1 v1.toInt.toNat (by omega) (by omega) (fun r er => hQ _ (fun s hs => ?_))
  rw [jpI_ne n01]
  by_cases c5 : s = v1.toInt.toNat
  · rw [c5, jpI_at]
    exact er
  · rw [jpI_off c5, e26, jpI_ne n01.symm, e22, jpI_ne n01.symm, hm s hs]
    congr 1
    refine (mnR_cg (fun i hi => ?_)).symm
    rw [jpI_off (by omega), jpI_off (by omega)]
theorem s18_X4_takeBack {Z : jZ} {I : jI} {L : jL} (w : WD Z I) (v0 : Nat) (kv0 : jk Z v0 4) (x0 x1 : Nat) (h0 : jr Z v0 0 = some x0) (h1 : jr Z v0 1 = some x1) (hm : MAI I x0 x1) (h3 : 0 ≤ (I v0 3).toInt ∧ (I v0 3).toInt ≤ 7) (h4 : 0 ≤ (I v0 4).toInt ∧ (I v0 4).toInt ≤ 8) {Q : Int32 → jI → jL → Prop} (hQ : ∀ (r : Int32) (I' : jI), MAI I' x0 x1 → Q r I' L) : f_X4_takeBack v0 Z I L Q := by
  obtain ⟨y0, y1, y2, e0, e1, e2, k0, k1, k2, l0, l1, l2, n01, n02, n12, na0, na1, na2⟩ := shr_at w kv0
  cases h0.symm.trans e0; cases h1.symm.trans e1
  have z0 : (0 : Int32).toInt = 0 := rfl
  have z1 : (1 : Int32).toInt = 1 := rfl
  unfold f_X4_takeBack
  refine ⟨fun c => ?_, fun _ => hQ 0 I hm⟩
  have c := (not_congr (i_eq rfl z0)).mp c
  intro I2 e2' x3 ex3 b hb
  cases e2.symm.trans hb
  intro b hb
  cases h0.symm.trans hb
  have t4 : (I2 v0 4).toInt = (I v0 4).toInt - 1 := by rw [e2', jpI_at]; exact i_sub rfl z1 (by omega) (by omega)
  have t3 : (I2 v0 3).toInt = (I v0 3).toInt := by rw [e2', jpI_off (by decide)]
  have tx : x3.toInt = ((I v0 3).toInt + ((I v0 4).toInt - 1)) % 8 := by
    rw [ex3]
    exact i_rem8 (i_add t3 t4 (by omega) (by omega)) (by omega)
  have t9 : (x3 * (192 : Int32)).toInt = ((I v0 3).toInt + ((I v0 4).toInt - 1)) % 8 * 192 := i_mul tx (show (192 : Int32).toInt = 192 from rfl) (by omega) (by omega)
  have q9 := i_nat t9 (by omega)
  have q0 : (0 : Int32).toNatClampNeg = 0 := rfl
  have q192 : (192 : Int32).toNatClampNeg = 192 := rfl
  refine ⟨⟨fun c9 => absurd ((i_lt t9 z0).mp c9) (by omega), by decide, by decide, by omega, by decide⟩, fun I7 e7 => ?_⟩
  exact s18_X4_findMains v0 x0 x1 h0 h1 n01 (fun I' _ hm' => hQ 1 I' hm')
theorem s18_X4_restore {Z : jZ} {I : jI} {L : jL} (w : WD Z I) (v0 v1 : Nat) (kv0 : jk Z v0 4) (x0 x1 : Nat) (h0 : jr Z v0 0 = some x0) (h1 : jr Z v0 1 = some x1) (p0 : jlen Z v1 = 192) {Q : jI → jL → Prop} (hQ : ∀ (I' : jI), MAI I' x0 x1 → Q I' L) : f_X4_restore v0 v1 Z I L Q := by
  obtain ⟨y0, y1, y2, e0, e1, e2, k0, k1, k2, l0, l1, l2, n01, n02, n12, na0, na1, na2⟩ := shr_at w kv0
  cases h0.symm.trans e0; cases h1.symm.trans e1
  unfold f_X4_restore
  intro b hb
  cases h0.symm.trans hb
  refine ⟨⟨by decide, by decide, by decide, by rw [p0]; decide, by decide⟩, fun I3 e3 I4 e4 => ?_⟩
  exact s18_X4_findMains v0 x0 x1 h0 h1 n01 (fun I' _ hm' => hQ I' hm')
theorem deal_L10 {Z : jZ} {L : jL} (v0 v1 x0 x1 : Nat) (h0 : jr Z v0 0 = some x0) (h1 : jr Z v0 1 = some x1) (n01 : x0 ≠ x1) (l1 : jlen Z v1 = 24) (v2 : Int32) {Q : jI → jL → Prop} (hQ : ∀ (I' : jI), MAI I' x0 x1 → Q I' L) (I0 : jI) (w0 : WD Z I0) :
    ∀ (n s : Nat) (v3 : Int32) (I : jI), v3.toInt = (s : Int) → s ≤ 24 → 25 ≤ n + s → f_X4_deal_L10 Z Q n v0 v1 v2 v3 I L := by
  have z0 : (0 : Int32).toInt = 0 := rfl
  have z8 : (8 : Int32).toInt = 8 := rfl
  have z24 : (24 : Int32).toInt = 24 := rfl
  intro n
  induction n with
  | zero => intro s v3 I e3 hs hn; omega
  | succ n ih =>
    intro s v3 I e3 hs hn
    have fin : f_X4_deal_b58 Z Q v0 I L := by
      unfold f_X4_deal_b58
      intro I1 e1
      exact s18_X4_findMains v0 x0 x1 h0 h1 n01 (fun I' _ hm' => hQ I' hm')
    have nx : ∀ I', s < 24 → f_X4_deal_b52 (f_X4_deal_L10 Z Q n) Z Q v0 v1 v2 v3 I' L := fun I' hs' => by
      unfold f_X4_deal_b52
      intro y ey
      exact ih (s + 1) y I' (by rw [ey]; exact (i_add e3 (show (1 : Int32).toInt = 1 from rfl) (by omega) (by omega)).trans (by omega)) (by omega) (by omega)
    unfold f_X4_deal_L10
    refine ⟨fun _ => fin, fun _ => ⟨fun _ => fin, fun _ => ⟨fun _ => fin, fun c3 => ?_⟩⟩⟩
    have c3 := (not_congr (i_le z24 e3)).mp c3
    have vi : vp_in v3 (jlen Z v1) := by rw [l1]; exact vi_of e3 (by omega) (by omega)
    refine ⟨vi, ?_⟩
    unfold f_X11_isFamily
    refine ⟨fun _ => ⟨fun _ => nx I (by omega), fun c => absurd rfl c⟩, fun c4 => ⟨fun _ => ⟨fun _ => nx I (by omega), fun c => absurd rfl c⟩, fun c5 => ⟨fun c => absurd c (by decide), fun _ => ?_⟩⟩⟩
    have c4 := (not_congr (i_lt rfl z0)).mp c4
    have c5 := (not_congr (i_le z8 rfl)).mp c5
    intro b hb
    cases h0.symm.trans hb
    have a3 : ((v3 * (8 : Int32)) + (I v1 v3.toNatClampNeg)).toInt = (s : Int) * 8 + (I v1 v3.toNatClampNeg).toInt := i_add (i_mul e3 z8 (by omega) (by omega)) rfl (by omega) (by omega)
    exact ⟨vi, vi_of a3 (by omega) (by omega), fun I24 e24 => nx I24 (by omega)⟩
theorem MAI_fr {W : List (Nat × Nat)} {Z Z' : jZ} {I I' : jI} {a x0 x1 : Nat} (w : WD Z I) (ka : jk Z a 4) (h0 : jr Z a 0 = some x0) (h1 : jr Z a 1 = some x1) (f : FR W Z I Z' I') (n0 : (4, 0) ∉ W) (n1 : (4, 1) ∉ W) (h : MAI I x0 x1) : MAI I' x0 x1 := by
  obtain ⟨y0, y1, y2, e0, e1, e2, k0, k1, k2, -⟩ := shr_at w ka
  cases h0.symm.trans e0; cases h1.symm.trans e1
  intro s hs
  rw [f.2.2.2 a 4 1 x1 ka h1 (by rw [k1.2]; rfl) rfl n1, f.2.2.2 a 4 0 x0 ka h0 (by rw [k0.2]; rfl) rfl n0]
  exact h s hs
theorem m18_X4_move {Z : jZ} {I : jI} {L : jL} (w : WD Z I) (v0 : Nat) (v1 v2 v3 v4 : Int32) (kv0 : jk Z v0 4) (x0 x1 : Nat) (h0 : jr Z v0 0 = some x0) (h1 : jr Z v0 1 = some x1) (hm : MAI I x0 x1) {Q : jI → jL → Prop} (hQ : ∀ (I' : jI) (L' : jL), WD Z I' → MAI I' x0 x1 → Q I' L') : f_X4_move v0 v1 v2 v3 v4 Z I L Q :=
  and_X4_move (Q1 := fun I' _ => WD Z I') (Q2 := fun I' _ => MAI I' x0 x1) (s_X4_move w v0 v1 v2 v3 v4 kv0 (fun I' L' w' _ => w')) (s18_X4_move w v0 v1 v2 v3 v4 kv0 x0 x1 h0 h1 hm (fun I' h => h)) (fun I' L' a b => hQ I' L' a b)
theorem in18_L30 {Z : jZ} (v0 : Nat) (kv0 : jk Z v0 4) (x0 x1 : Nat) (h0 : jr Z v0 0 = some x0) (h1 : jr Z v0 1 = some x1) (v1 v2 v3 v4 v5 : Int32) (h5 : ¬ v5 = 0) {Q : jI → jL → Prop} (hQ : ∀ (I' : jI) (L' : jL), WD Z I' → MAI I' x0 x1 → Q I' L') :
    ∀ (n s : Nat) (v6 v7 : Int32) (I : jI) (L : jL), v7.toInt = (s : Int) → s ≤ 8 → 9 ≤ n + s → WD Z I → MAI I x0 x1 → f_X4_inherit_L30 Z Q n v0 v1 v2 v3 v4 v5 v6 v7 I L := by
  have z8 : (8 : Int32).toInt = 8 := rfl
  intro n
  induction n with
  | zero => intro s v6 v7 I L e7 hs hn; omega
  | succ n ih =>
    intro s v6 v7 I L e7 hs hn w hm
    have nx : ∀ v6' I' L', s < 8 → WD Z I' → MAI I' x0 x1 → f_X4_inherit_b73 (f_X4_inherit_L30 Z Q n) Z Q v0 v1 v2 v3 v4 v5 v6' v7 I' L' := fun v6' I' L' hs' w' hm' => by
      unfold f_X4_inherit_b73
      intro y ey
      exact ih (s + 1) v6' y I' L' (by rw [ey]; exact (i_add e7 (show (1 : Int32).toInt = 1 from rfl) (by omega) (by omega)).trans (by omega)) (by omega) (by omega) w' hm'
    unfold f_X4_inherit_L30
    refine ⟨fun _ => hQ I L w hm, fun c => ?_⟩
    have c := (not_congr (i_le z8 e7)).mp c
    have go : ∀ s5 : Int32, f_X4_inherit_b66 (f_X4_inherit_L30 Z Q n) Z Q v0 v1 v2 v3 v4 v5 v6 v7 v0 v1 v2 v7 (v4 / v5) s5 I L := fun s5 => by
      unfold f_X4_inherit_b66
      refine m18_X4_move w v0 v1 v2 v7 _ kv0 x0 x1 h0 h1 hm (fun I' L' w' hm' => ?_)
      intro y ey
      exact nx y I' L' (by omega) w' hm'
    exact ⟨fun _ => nx v6 I L (by omega) w hm, fun _ => ⟨h5, fun _ => go 0, fun _ => go 1⟩⟩
theorem s18_X4_inherit {Z : jZ} {I : jI} {L : jL} (w : WD Z I) (v0 : Nat) (v1 v2 v3 : Int32) (kv0 : jk Z v0 4) (x0 x1 : Nat) (h0 : jr Z v0 0 = some x0) (h1 : jr Z v0 1 = some x1) (hm : MAI I x0 x1) {Q : jI → jL → Prop} (hQ : ∀ (I' : jI) (L' : jL), WD Z I' → MAI I' x0 x1 → Q I' L') : f_X4_inherit v0 v1 v2 v3 Z I L Q := by
  unfold f_X4_inherit
  refine s_X4_shareOf w v0 v1 v2 kv0 (fun r => ?_)
  refine s_J6_bitCount_0f7a4 w v3 (fun r26 p26 => ?_)
  refine ⟨fun c => ⟨c, fun x29 e29 => ?_⟩, fun _ => hQ I L w hm⟩
  exact ⟨9, in18_L30 v0 kv0 x0 x1 h0 h1 v1 v2 v3 _ _ c hQ 9 0 x29 0 I L rfl (by omega) (by omega) w hm⟩
/-- the class's shares, and who is MAIN -/
def PC1 (Z : jZ) (v0 uF uP x0 x1 : Nat) : Prop := jr Z v0 2 = some uF ∧ jk Z uF 8 ∧ jr Z uF 4 = some uP ∧ jk Z uP 4 ∧ jr Z uP 0 = some x0 ∧ jr Z uP 1 = some x1
theorem s18_X11_sells {Z : jZ} {I : jI} {L : jL} (w : WD Z I) (v0 : Nat) (v1 v2 v3 v4 v5 : Int32) (uF uP x0 x1 : Nat) (pc : PC1 Z v0 uF uP x0 x1) (hm : MAI I x0 x1) {Q : Int32 → jI → jL → Prop} (hQ : ∀ (r : Int32) (I' : jI) (L' : jL), MAI I' x0 x1 → Q r I' L') : f_X11_sells v0 v1 v2 v3 v4 v5 Z I L Q := by
  obtain ⟨huF, kF, huP, kP, h0, h1⟩ := pc
  unfold f_X11_sells
  intro b e
  cases huF.symm.trans e
  refine s_X8_has w uF v1 kF (fun r p => ⟨fun _ => hQ _ I L hm, fun _ => ?_⟩)
  refine s_X11_isFamily w v2 (fun r2 p2 => ⟨fun _ => hQ _ I L hm, fun _ => ?_⟩)
  refine s_X11_isFamily w v3 (fun r3 p3 => ⟨fun _ => hQ _ I L hm, fun _ => ?_⟩)
  refine ⟨fun _ => ⟨fun _ => hQ _ I L hm, fun c5 => ⟨fun _ => hQ _ I L hm, fun _ => ⟨fun c7 => ?_, fun _ => hQ _ I L hm⟩⟩⟩, fun _ => hQ _ I L hm⟩
  have c5 := (not_congr (i_lt (x := v4) (y := 1) rfl (show (1 : Int32).toInt = 1 from rfl))).mp c5
  have c7 := (i_le (x := v4) (y := v5) rfl rfl).mp c7
  intro b e
  cases huF.symm.trans e
  intro b e
  cases huP.symm.trans e
  refine s_X4_shareOf w uP v1 v2 kP (fun r => ?_)
  refine ⟨fun e => by have := congrArg Int32.toInt e; rw [show (0 : Int32).toInt = 0 from rfl] at this; omega, ?_⟩
  intro x40 e40
  refine ⟨fun _ => ?_, fun _ => hQ _ I L hm⟩
  intro b e
  cases huF.symm.trans e
  intro b e
  cases huP.symm.trans e
  refine s_X4_remember w uP kP (fun I1 L1 w1 f1 => ?_)
  intro b e
  cases huF.symm.trans e
  intro b e
  cases huP.symm.trans e
  exact m18_X4_move w1 uP v1 v2 v3 x40 kP x0 x1 h0 h1 (MAI_fr w kP h0 h1 f1 (by decide) (by decide) hm) (fun I' L' _ hm' => hQ _ I' L' hm')
theorem s18_X11_undo {Z : jZ} {I : jI} {L : jL} (w : WD Z I) (v0 : Nat) (uF uP x0 x1 : Nat) (pc : PC1 Z v0 uF uP x0 x1) (hm : MAI I x0 x1) {Q : Int32 → jI → jL → Prop} (hQ : ∀ (r : Int32) (I' : jI) (L' : jL), MAI I' x0 x1 → Q r I' L') : f_X11_undo v0 Z I L Q := by
  obtain ⟨huF, kF, huP, kP, h0, h1⟩ := pc
  unfold f_X11_undo
  intro b e
  cases huF.symm.trans e
  intro b e
  cases huP.symm.trans e
  refine s18_X4_takeBack w uP kP x0 x1 h0 h1 hm (w.fld 4 3 kP (by decide)) (w.fld 4 4 kP (by decide)) (fun r I' hm' => ⟨fun _ => hQ _ I' L hm', fun _ => ?_⟩)
  intro b e
  cases huF.symm.trans e
  intro b e
  cases huP.symm.trans e
  exact hQ _ I' L hm'
theorem d18_L58 {Z : jZ} (v0 : Nat) (uF uP x0 x1 : Nat) (pc : PC1 Z v0 uF uP x0 x1) (v1 v2 v3 : Int32) {Q : Int32 → jI → jL → Prop} (hQ : ∀ (r : Int32) (I' : jI) (L' : jL), MAI I' x0 x1 → Q r I' L') :
    ∀ (n s : Nat) (v4 : Int32) (I : jI) (L : jL), v4.toInt = (s : Int) → s ≤ 24 → 25 ≤ n + s → WD Z I → MAI I x0 x1 → f_X11_dies_L58 Z Q n v0 v1 v2 v3 v4 I L := by
  obtain ⟨huF, kF, huP, kP, h0, h1⟩ := pc
  intro n
  induction n with
  | zero => intro s v4 I L e4 hs hn; omega
  | succ n ih =>
    intro s v4 I L e4 hs hn w hm
    have t9 : 0 ≤ (I uF 9).toInt ∧ (I uF 9).toInt ≤ 24 := w.fld 8 9 kF (by decide)
    unfold f_X11_dies_L58
    intro b e
    cases huF.symm.trans e
    refine ⟨fun _ => hQ _ I L hm, fun c => ?_⟩
    have c := (not_congr (i_le rfl e4)).mp c
    intro b e
    cases huF.symm.trans e
    intro b e
    cases huP.symm.trans e
    refine s18_X4_inherit w uP v4 v1 v2 kP x0 x1 h0 h1 hm (fun I' L' w' hm' => ?_)
    intro y ey
    exact ih (s + 1) y I' L' (by rw [ey]; exact (i_add e4 (show (1 : Int32).toInt = 1 from rfl) (by omega) (by omega)).trans (by omega)) (by omega) (by omega) w' hm'
theorem s18_X11_dies {Z : jZ} {I : jI} {L : jL} (w : WD Z I) (v0 : Nat) (v1 v2 : Int32) (uF uP x0 x1 : Nat) (pc : PC1 Z v0 uF uP x0 x1) (hm : MAI I x0 x1) {Q : Int32 → jI → jL → Prop} (hQ : ∀ (r : Int32) (I' : jI) (L' : jL), MAI I' x0 x1 → Q r I' L') : f_X11_dies v0 v1 v2 Z I L Q := by
  have pcc := pc
  obtain ⟨huF, kF, huP, kP, h0, h1⟩ := pc
  unfold f_X11_dies
  refine s_X11_isFamily w v1 (fun r p => ⟨fun _ => hQ _ I L hm, fun _ => ⟨fun _ => hQ _ I L hm, fun _ => ⟨fun _ => hQ _ I L hm, fun _ => ⟨fun _ => ?_, fun _ => hQ _ I L hm⟩⟩⟩⟩)
  intro b e
  cases huF.symm.trans e
  intro b e
  cases huP.symm.trans e
  refine s_X4_sumOf w uP v1 kP (fun r => ⟨fun _ => hQ _ I L hm, fun _ => ?_⟩)
  intro b e
  cases huF.symm.trans e
  intro b e
  cases huP.symm.trans e
  refine s_X4_remember w uP kP (fun I1 L1 w1 f1 => ?_)
  exact ⟨25, d18_L58 v0 uF uP x0 x1 pcc v1 v2 r hQ 25 0 0 I1 L1 rfl (by omega) (by omega) w1 (MAI_fr w kP h0 h1 f1 (by decide) (by decide) hm)⟩
theorem s18_X4_deal {Z : jZ} {I : jI} {L : jL} (w : WD Z I) (v0 v1 : Nat) (v2 : Int32) (kv0 : jk Z v0 4) (l1 : jlen Z v1 = 24) (x0 x1 : Nat) (h0 : jr Z v0 0 = some x0) (h1 : jr Z v0 1 = some x1) {Q : jI → jL → Prop} (hQ : ∀ (I' : jI), MAI I' x0 x1 → Q I' L) : f_X4_deal v0 v1 v2 Z I L Q := by
  obtain ⟨y0, y1, y2, e0, e1, e2, k0, k1, k2, l0, l1', l2, n01, n02, n12, na0, na1, na2⟩ := shr_at w kv0
  cases h0.symm.trans e0; cases h1.symm.trans e1
  unfold f_X4_deal
  intro b hb
  cases h0.symm.trans hb
  refine fill_raw (by omega) (fun I28 _ _ => ?_)
  exact ⟨25, deal_L10 v0 v1 x0 x1 h0 h1 n01 l1 v2 hQ I w 25 0 0 I28 rfl (by omega) (by omega)⟩
theorem s18_X8_build {Z : jZ} {I : jI} {L : jL} (w : WD Z I) (v0 v1 : Nat) (kv0 : jk Z v0 8) (kv1 : jk Z v1 9) (uP x0 x1 : Nat) (huP : jr Z v0 4 = some uP) (kP : jk Z uP 4) (h0 : jr Z uP 0 = some x0) (h1 : jr Z uP 1 = some x1) {Q : jI → jL → Prop} (hQ : ∀ (I' : jI), MAI I' x0 x1 → Q I' L) : f_X8_build v0 v1 Z I L Q := by
  obtain ⟨b4, e4, k4, l4⟩ := sh_f w.1 kv1 (j := 4) (k := 14) (m := 24) rfl
  unfold f_X8_build
  intro I1 _ b2 _ b3 _
  refine ⟨⟨by decide, by decide, by decide, by decide, by decide⟩, fun I5 _ b6 _ b7 _ => ?_⟩
  refine ⟨⟨by decide, by decide, by decide, by decide, by decide⟩, fun I9 _ b10 _ b11 _ => ?_⟩
  refine ⟨⟨by decide, by decide, by decide, by decide, by decide⟩, fun I13 _ b14 _ b15 _ => ?_⟩
  refine ⟨⟨by decide, by decide, by decide, by decide, by decide⟩, fun I17 _ b18 e18 b19 e19 => ?_⟩
  cases huP.symm.trans e18
  cases e4.symm.trans e19
  -- the deal needs no more than the shape of the world
  obtain ⟨y0, y1, y2, g0, g1, g2, k0, k1, k2, l0, l1, l2, n01, n02, n12, na0, na1, na2⟩ := shr_at w kP
  cases h0.symm.trans g0; cases h1.symm.trans g1
  unfold f_X4_deal
  intro b hb
  cases h0.symm.trans hb
  refine fill_raw (by omega) (fun I28 _ _ => ?_)
  exact ⟨25, deal_L10 uP b4 x0 x1 h0 h1 n01 l4 _ hQ I w 25 0 0 I28 rfl (by omega) (by omega)⟩
theorem s18_X2_getStairs {Z : jZ} {I : jI} {L : jL} (w : WD Z I) (v0 v1 : Nat) (kv0 : jk Z v0 2) (uP x0 x1 : Nat) (huP : jr Z v1 4 = some uP) (kP : jk Z uP 4) (h0 : jr Z uP 0 = some x0) (h1 : jr Z uP 1 = some x1) {Q : jI → jL → Prop} (hQ : ∀ (I' : jI), MAI I' x0 x1 → Q I' L) : f_X2_getStairs v0 v1 Z I L Q := by
  obtain ⟨b2, e2, k2, l2⟩ := sh_f w.1 kv0 (j := 2) (k := 14) (m := 192) rfl
  obtain ⟨y0, y1, y2, g0, g1, g2, k0, k1, k2', l0, l1, l2', n01, n02, n12, na0, na1, na2⟩ := shr_at w kP
  cases h0.symm.trans g0; cases h1.symm.trans g1
  unfold f_X2_getStairs
  intro b1 _ b3 _
  refine ⟨⟨by decide, by decide, by decide, by decide, by decide⟩, fun I4 _ b5 _ b6 _ => ?_⟩
  refine ⟨⟨by decide, by decide, by decide, by decide, by decide⟩, fun I8 _ b9 e9 b10 e10 => ?_⟩
  cases huP.symm.trans e9
  cases e2.symm.trans e10
  unfold f_X4_restore
  intro b hb
  cases h0.symm.trans hb
  refine ⟨⟨by decide, by decide, by decide, by rw [l2]; decide, by decide⟩, fun I3 e3 I4' e4 => ?_⟩
  exact s18_X4_findMains uP x0 x1 h0 h1 n01 (fun I' _ hm' => hQ I' hm')
theorem MAI_eq {I I' : jI} {x0 x1 : Nat} (h0 : I' x0 = I x0) (h1 : I' x1 = I x1) (h : MAI I x0 x1) : MAI I' x0 x1 := fun s hs => by
  rw [h0, h1]
  exact h s hs
theorem ag18_L59 {Z : jZ} (v0 v2 : Nat) (kv0 : jk Z v0 11) (kv2 : jk Z v2 2) (uP x0 x1 : Nat) (kP : jk Z uP 4) (h0 : jr Z uP 0 = some x0) (h1 : jr Z uP 1 = some x1) {Q : Int32 → jI → jL → Prop} (hQ : ∀ (r : Int32) (I' : jI) (L' : jL), MAI I' x0 x1 → Q r I' L') :
    ∀ (n s : Nat) (v3 : Int32) (I : jI) (L : jL), v3.toInt = (s : Int) → s ≤ 6 → 7 ≤ n + s → WD Z I → MAI I x0 x1 → f_X11_again_L59 Z Q n v0 v2 v3 I L := by
  intro n
  induction n with
  | zero => intro s v3 I L e3 hs hn; omega
  | succ n ih =>
    intro s v3 I L e3 hs hn w hm
    have t4 : 0 ≤ (I v0 4).toInt ∧ (I v0 4).toInt ≤ 6 := w.fld 11 4 kv0 (by decide)
    have nx : ∀ I' L', s < 6 → WD Z I' → MAI I' x0 x1 → f_X11_again_b94 (f_X11_again_L59 Z Q n) Z Q v0 v2 v3 I' L' := fun I' L' hs' w' hm' => by
      unfold f_X11_again_b94
      intro y ey
      exact ih (s + 1) y I' L' (by rw [ey]; exact (i_add e3 (show (1 : Int32).toInt = 1 from rfl) (by omega) (by omega)).trans (by omega)) (by omega) (by omega) w' hm'
    unfold f_X11_again_L59
    refine ⟨fun _ => hQ _ I L hm, fun _ => ⟨fun _ => hQ _ I L hm, fun c => ?_⟩⟩
    have c := (not_congr (i_le rfl e3)).mp c
    refine s_X11_find w v0 v3 kv0 (fun r p => ⟨fun _ => nx I L (by omega) w hm, fun b e => ?_⟩)
    exact s_X2_getPilgrim w v2 v3 b kv2 (p.1 b e).1 (fun I' L' w' f' => nx I' L' (by omega) w' (MAI_fr w kP h0 h1 f' (by decide) (by decide) hm))
set_option maxHeartbeats 1000000 in
theorem s18_X11_again {Z : jZ} {I : jI} {L : jL} (w : WD Z I) (v0 : Nat) (v1 : Int32) (kv0 : jk Z v0 11) (uF uP x0 x1 : Nat) (pc : PC1 Z v0 uF uP x0 x1) (hm : MAI I x0 x1) {Q : Int32 → jI → jL → Prop} (hQ : ∀ (r : Int32) (I' : jI) (L' : jL), MAI I' x0 x1 → Q r I' L') : f_X11_again v0 v1 Z I L Q := by
  obtain ⟨huF, kF, huP, kP, h0, h1⟩ := pc
  obtain ⟨y0, y1, y2, g0, g1, g2, k0, k1, k2, -⟩ := shr_at w kP
  cases h0.symm.trans g0; cases h1.symm.trans g1
  have z0 : (0 : Int32).toInt = 0 := rfl
  have z2 : (2 : Int32).toInt = 2 := rfl
  unfold f_X11_again
  refine ⟨fun _ => hQ _ I L hm, fun c1 => ?_⟩
  have c1 := (not_congr (i_lt rfl z0)).mp c1
  intro b25 eb25
  obtain ⟨x26, ex26, kb25, lb25⟩ := sh_f w.1 kv0 (j := 8) (k := 17) (m := 2) rfl
  cases eb25.symm.trans ex26
  refine ⟨fun _ => hQ _ I L hm, fun c2 => ?_⟩
  have c2 := (not_congr (i_le z2 rfl)).mp c2
  intro b31 eb31
  obtain rfl : b25 = b31 := Option.some.inj (eb25.symm.trans eb31)
  have o32 : vp_in v1 2 := vi_of rfl (by omega) (by omega)
  refine ⟨o32, ?_⟩
  intro b33 eb33
  obtain ⟨x35, ex35, kb33⟩ := w.1.2.2.1 b25 kb25 _ (vp_lt (by rw [lb25]; exact o32))
  cases eb33.symm.trans ex35
  refine ⟨fun _ => ?_, fun _ => hQ _ I L hm⟩
  intro b38 eb38
  obtain rfl : b25 = b38 := Option.some.inj (eb25.symm.trans eb38)
  refine ⟨o32, ?_⟩
  intro b40 eb40
  cases eb33.symm.trans eb40
  intro b43 eb43
  cases huF.symm.trans eb43
  refine and_X2_getStairs (Q1 := fun I' _ => WD Z I') (Q2 := fun I' _ => MAI I' x0 x1) (s_X2_getStairs w b33 uF kb33 kF (fun I' L' w' _ => w')) (s18_X2_getStairs w b33 uF kb33 uP x0 x1 huP kP h0 h1 (fun I' h => h)) (fun I45 L46 w45 m45 => ?_)
  intro b48 eb48 b50 eb50
  obtain ⟨x51, ex51, kb50, lb50⟩ := sh_f w45.1 kv0 (j := 5) (k := 14) (m := 8) rfl
  cases eb50.symm.trans ex51
  have nx : ∀ x j, jr Z uP j = some x → b50 ≠ x := fun x j hj q => by
    subst q
    exact absurd (w.2.1.2.2 v0 11 5 uP 4 j b50 kv0 kP eb50 hj rfl rfl).1 (ks_ne kv0 kP (by decide))
  refine ⟨⟨by decide, by decide, by decide, by decide, by decide⟩, fun I58 e58 => ?_⟩
  have w58 : WD Z I58 := by rw [e58]; exact WD_cpy w45 11 5 kv0 eb50 kb50 rfl rfl (by decide) (fun _ _ _ => trivial)
  have m58 : MAI I58 x0 x1 := MAI_eq (by rw [e58]; exact va_up_ne _ _ (nx x0 0 h0).symm) (by rw [e58]; exact va_up_ne _ _ (nx x1 1 h1).symm) m45
  exact ⟨7, ag18_L59 v0 b33 kv0 kb33 uP x0 x1 kP h0 h1 hQ 7 0 0 I58 L46 rfl (by omega) (by omega) w58 m58⟩
theorem st18_L76 {Z : jZ} (v0 : Nat) (kv0 : jk Z v0 11) (x0 x1 : Nat) (k0 : jk Z x0 14) (k1 : jk Z x1 14) (v1 : Int32) {Q : Int32 → jI → jL → Prop} (hQ : ∀ (r : Int32) (I' : jI) (L' : jL), MAI I' x0 x1 → Q r I' L') :
    ∀ (n s : Nat) (v2 : Int32) (I : jI) (L : jL), v2.toInt = (s : Int) → s ≤ 2 → 3 ≤ n + s → WD Z I → MAI I x0 x1 → f_X11_stairs_L76 Z Q n v0 v1 v2 I L := by
  have z2 : (2 : Int32).toInt = 2 := rfl
  intro n
  induction n with
  | zero => intro s v2 I L e2 hs hn; omega
  | succ n ih =>
    intro s v2 I L e2 hs hn w hm
    unfold f_X11_stairs_L76
    intro b1 eb1
    obtain ⟨x26, ex26, kb1, lb1⟩ := sh_f w.1 kv0 (j := 8) (k := 17) (m := 2) rfl
    cases eb1.symm.trans ex26
    refine ⟨fun _ => hQ _ I L hm, fun c => ?_⟩
    have c := (not_congr (i_le z2 e2)).mp c
    intro b3 eb3
    obtain rfl : b1 = b3 := Option.some.inj (eb1.symm.trans eb3)
    have o : vp_in v2 2 := vi_of e2 (by omega) (by omega)
    refine ⟨o, ?_⟩
    intro b5 eb5
    obtain ⟨x35, ex35, kb5⟩ := w.1.2.2.1 b1 kb1 _ (vp_lt (by rw [lb1]; exact o))
    cases eb5.symm.trans ex35
    intro I6 e6 y ey
    refine ih (s + 1) y I6 L (by rw [ey]; exact (i_add e2 (show (1 : Int32).toInt = 1 from rfl) (by omega) (by omega)).trans (by omega)) (by omega) (by omega) ?_ (MAI_eq (by rw [e6, jpI_ne (ks_ne k0 kb5 (by decide))]) (by rw [e6, jpI_ne (ks_ne k1 kb5 (by decide))]) hm)
    rw [e6]
    exact WD_putF w 2 8 kb5 (by decide) (by decide) trivial
theorem st18_L38 {Z : jZ} (v0 : Nat) (kv0 : jk Z v0 11) (uP x0 x1 : Nat) (kP : jk Z uP 4) (h0 : jr Z uP 0 = some x0) (h1 : jr Z uP 1 = some x1) (k0 : jk Z x0 14) (k1 : jk Z x1 14) (v1 : Int32) {Q : Int32 → jI → jL → Prop} (hQ : ∀ (r : Int32) (I' : jI) (L' : jL), MAI I' x0 x1 → Q r I' L') :
    ∀ (n s : Nat) (v2 : Int32) (I : jI) (L : jL), v2.toInt = (s : Int) → s ≤ 6 → 7 ≤ n + s → WD Z I → MAI I x0 x1 → f_X11_stairs_L38 Z Q n v0 v1 v2 I L := by
  intro n
  induction n with
  | zero => intro s v2 I L e2 hs hn; omega
  | succ n ih =>
    intro s v2 I L e2 hs hn w hm
    have t4 : 0 ≤ (I v0 4).toInt ∧ (I v0 4).toInt ≤ 6 := w.fld 11 4 kv0 (by decide)
    have nx : ∀ I' L', s < 6 → WD Z I' → MAI I' x0 x1 → f_X11_stairs_b60 (f_X11_stairs_L38 Z Q n) Z Q v0 v1 v2 I' L' := fun I' L' hs' w' hm' => by
      unfold f_X11_stairs_b60
      intro y ey
      exact ih (s + 1) y I' L' (by rw [ey]; exact (i_add e2 (show (1 : Int32).toInt = 1 from rfl) (by omega) (by omega)).trans (by omega)) (by omega) (by omega) w' hm'
    unfold f_X11_stairs_L38
    refine ⟨fun _ => ?_, fun c => ?_⟩
    · intro b10 eb10
      obtain ⟨x51, ex51, kb10, lb10⟩ := sh_f w.1 kv0 (j := 5) (k := 14) (m := 8) rfl
      cases eb10.symm.trans ex51
      have nx' : ∀ x j, jr Z uP j = some x → x ≠ b10 := fun x j hj q => by
        subst q
        exact absurd (w.2.1.2.2 v0 11 5 uP 4 j x kv0 kP eb10 hj rfl rfl).1 (ks_ne kv0 kP (by decide))
      refine and_J7_fill_53178 (Q1 := fun I' _ => WD Z I') (Q2 := fun I' _ => MAI I' x0 x1) (s_J7_fill_53178 w b10 0 kb10 v0 11 5 kv0 eb10 (by decide) rfl (by omega) (fun _ => trivial) (fun I' L' w' _ => w')) (fill_raw (by omega) (fun I' hx _ => MAI_eq (hx x0 (nx' x0 0 h0)) (hx x1 (nx' x1 1 h1)) hm)) (fun I13 L14 w13 m13 => ?_)
      exact ⟨3, st18_L76 v0 kv0 x0 x1 k0 k1 v1 hQ 3 0 0 I13 L14 rfl (by omega) (by omega) w13 m13⟩
    have c := (not_congr (i_le rfl e2)).mp c
    refine s_X11_find w v0 v2 kv0 (fun r p => ⟨fun _ => nx I L (by omega) w hm, fun b e => ?_⟩)
    exact s_X5_startAnew w b (p.1 b e).1 (fun I' L' w' f' => nx I' L' (by omega) w' (MAI_fr w kP h0 h1 f' (by decide) (by decide) hm))
theorem s18_X11_stairs {Z : jZ} {I : jI} {L : jL} (w : WD Z I) (v0 : Nat) (kv0 : jk Z v0 11) (uF uP x0 x1 : Nat) (pc : PC1 Z v0 uF uP x0 x1) (hm : MAI I x0 x1) {Q : Int32 → jI → jL → Prop} (hQ : ∀ (r : Int32) (I' : jI) (L' : jL), MAI I' x0 x1 → Q r I' L') : f_X11_stairs v0 Z I L Q := by
  obtain ⟨huF, kF, huP, kP, h0, h1⟩ := pc
  obtain ⟨y0, y1, y2, g0, g1, g2, k0, k1, k2, -⟩ := shr_at w kP
  cases h0.symm.trans g0; cases h1.symm.trans g1
  obtain ⟨uN, eN, kN⟩ := sh_o w.1 kv0 (j := 1) (k := 9) rfl
  obtain ⟨uT, eT, kT⟩ := sh_o w.1 kv0 (j := 0) (k := 10) rfl
  unfold f_X11_stairs
  intro b e
  cases eN.symm.trans e
  intro b e
  cases eT.symm.trans e
  refine s_X9_read w uN uT kN kT (fun r I1 L1 w1 f1 => ?_)
  intro b e
  cases eT.symm.trans e
  refine s_X10_clear w1 uT kT (fun I2 L2 w2 f2 => ?_)
  have m2 : MAI I2 x0 x1 := MAI_fr w1 kP h0 h1 f2 (by decide) (by decide) (MAI_fr w kP h0 h1 f1 (by decide) (by decide) hm)
  refine ⟨fun _ => ?_, fun _ => hQ _ I2 L2 m2⟩
  intro b e
  cases huF.symm.trans e
  intro b e
  cases eN.symm.trans e
  refine and_X8_build (Q1 := fun I' _ => WD Z I') (Q2 := fun I' _ => MAI I' x0 x1) (s_X8_build w2 uF uN kF kN (fun I' L' w' _ => w')) (s18_X8_build w2 uF uN kF kN uP x0 x1 huP kP h0 h1 (fun I' h => h)) (fun I3 L3 w3 m3 => ?_)
  exact ⟨7, st18_L38 v0 kv0 uP x0 x1 kP h0 h1 k0 k1 r hQ 7 0 0 I3 L3 rfl (by omega) (by omega) w3 m3⟩
end
section
/-! ===== the reference reads a LAW: what it comes to under letters ===== -/
/-- two numbers and a sign -/
def joi (s : Int) (a b : Int32) : Int32 := if s = 42 then a * b else if s = 43 then a + b else if s = 45 then a - b else if s = 60 then (if a < b then 1 else 0) else if s = 61 then (if a = b then 1 else 0) else if s = 62 then (if b < a then 1 else 0) else if b = 0 then 0 else a / b
/-- one number, letter or sign is worked off -/
def ev1 (lt : Nat → Int32) (st : List Int32) (x : Int) : List Int32 := if x < 1000 then Int32.ofInt x :: st else if x < 2000 then lt (x - 1000).toNat :: st else if x = 2000 then (match st with | a :: s => (-a) :: s | s => s) else (match st with | b :: a :: s => joi (x - 2000) a b :: s | s => s)
def ev (lt : Nat → Int32) (c : List Int) (st : List Int32) : List Int32 := c.foldl (ev1 lt) st
theorem ev_app {lt : Nat → Int32} {c e : List Int} {st : List Int32} : ev lt (c ++ e) st = ev lt e (ev lt c st) := List.foldl_append
theorem ev_one {lt : Nat → Int32} {x : Int} {st : List Int32} : ev lt [x] st = ev1 lt st x := rfl
theorem ev_neg {lt : Nat → Int32} {a : Int32} {st : List Int32} : ev lt [2000] (a :: st) = (-a) :: st := by
  rw [ev_one]
  unfold ev1
  rw [if_neg (by omega), if_neg (by omega), if_pos rfl]
theorem ev_op {lt : Nat → Int32} {a b : Int32} {s : Int} {st : List Int32} (h : 0 < s) : ev lt [2000 + s] (b :: a :: st) = joi s a b :: st := by
  rw [ev_one]
  unfold ev1
  rw [if_neg (by omega), if_neg (by omega), if_neg (by omega)]
  show joi (2000 + s - 2000) a b :: st = _
  rw [show 2000 + s - 2000 = s by omega]
theorem ev_num {lt : Nat → Int32} {v : Int32} {x : Int} {st : List Int32} (h : v.toInt = x) (h1 : x < 1000) : ev lt [x] st = v :: st := by
  rw [ev_one]
  unfold ev1
  rw [if_pos h1, ← h, Int32.ofInt_toInt]
theorem ev_let {lt : Nat → Int32} {j : Int} {st : List Int32} (h : 0 ≤ j ∧ j ≤ 6) : ev lt [1000 + j] st = lt j.toNat :: st := by
  rw [ev_one]
  unfold ev1
  rw [if_neg (by omega), if_pos (by omega), show 1000 + j - 1000 = j by omega]
theorem joi_mul {a b : Int32} : joi 42 a b = a * b := rfl
theorem joi_div {a b : Int32} : joi 47 a b = if b = 0 then 0 else a / b := rfl
theorem joi_add {a b : Int32} : joi 43 a b = a + b := rfl
theorem joi_sub {a b : Int32} : joi 45 a b = a - b := rfl
theorem joi_lt {a b : Int32} : joi 60 a b = if a < b then 1 else 0 := rfl
theorem joi_eq {a b : Int32} : joi 61 a b = if a = b then 1 else 0 := rfl
theorem joi_gt {a b : Int32} : joi 62 a b = if b < a then 1 else 0 := rfl
def TMl (Z : jZ) (I0 : jI) (v0 uR : Nat) (sz : Int) : Prop := WD Z I0 ∧ jk Z v0 12 ∧ jr Z v0 23 = some uR ∧ jk Z uR 13 ∧ (0 ≤ sz ∧ sz ≤ 80 ∧ min sz 40 ≤ (jlen Z uR : Int)) ∧ (∀ I', FR Ws_R12 Z I0 Z I' → I' uR = I0 uR)
def ML (Z : jZ) (I0 : jI) (v0 : Nat) (sz : Int) (I : jI) (a F : Int) : Prop := WD Z I ∧ FR Ws_R12 Z I0 Z I ∧ (I v0 26).toInt = a ∧ (I v0 27).toInt = F ∧ (I v0 24).toInt = sz ∧ (I v0 25).toInt = 40
theorem ML_at {Z : jZ} {I0 I : jI} {v0 uR : Nat} {sz a F : Int} (t : TMl Z I0 v0 uR sz) (s : ML Z I0 v0 sz I a F) (h0 : 0 ≤ a ∧ a ≤ 100) : ML Z I0 v0 sz (jpI I v0 26 ((I v0 26) + (1 : Int32))) (a + 1) F := by
  obtain ⟨w0, k0, -⟩ := t
  refine ⟨WD_putF s.1 12 26 k0 (by decide) (by decide) trivial, s.2.1.trans w0.1 w0.2.1 (FR_putF k0 (by decide) (by decide)), ?_, ?_, ?_, ?_⟩
  · rw [jpI_at]; exact i_add s.2.2.1 (show (1 : Int32).toInt = 1 from rfl) (by omega) (by omega)
  · rw [jpI_o (by decide)]; exact s.2.2.2.1
  · rw [jpI_o (by decide)]; exact s.2.2.2.2.1
  · rw [jpI_o (by decide)]; exact s.2.2.2.2.2
theorem ML_flt {Z : jZ} {I0 I : jI} {v0 uR : Nat} {sz a F : Int} {y : Int32} (t : TMl Z I0 v0 uR sz) (s : ML Z I0 v0 sz I a F) : ML Z I0 v0 sz (jpI I v0 27 y) a y.toInt := by
  obtain ⟨w0, k0, -⟩ := t
  refine ⟨WD_putF s.1 12 27 k0 (by decide) (by decide) trivial, s.2.1.trans w0.1 w0.2.1 (FR_putF k0 (by decide) (by decide)), ?_, ?_, ?_, ?_⟩
  · rw [jpI_o (by decide)]; exact s.2.2.1
  · rw [jpI_at]
  · rw [jpI_o (by decide)]; exact s.2.2.2.2.1
  · rw [jpI_o (by decide)]; exact s.2.2.2.2.2
theorem n_here {Z : jZ} {I0 I : jI} {L : jL} {v0 uR : Nat} {sz a F : Int} {Q : Int32 → jI → jL → Prop} (t : TMl Z I0 v0 uR sz) (s : ML Z I0 v0 sz I a F) (h0 : 0 ≤ a) (h : ∀ r : Int32, r.toInt = GS (I0 uR) (min sz 40) a → Q r I L) : f_X12_here v0 Z I L Q := by
  obtain ⟨w0, k0, h23, kR, hz, hR⟩ := t
  have e := hR I s.2.1
  obtain ⟨w, f, sa, sF, s4, s5⟩ := s
  unfold f_X12_here
  refine ⟨fun c => h _ ?_, fun c => ⟨fun c1 => h _ ?_, fun c1 => ⟨uR, h23, kR, ?_, h _ ?_⟩⟩⟩
  · have := (i_le s4 sa).mp c
    rw [GS_out (by omega)]; rfl
  · have := (i_le s5 sa).mp c1
    rw [GS_out (by omega)]; rfl
  · have := (not_congr (i_le s4 sa)).mp c
    have := (not_congr (i_le s5 sa)).mp c1
    exact vi_of sa (by omega) (by omega)
  · have c := (not_congr (i_le s4 sa)).mp c
    have c1 := (not_congr (i_le s5 sa)).mp c1
    rw [e]
    have g := GS_in (f := I0 uR) (lim := min sz 40) (x := I v0 26) (by omega) (by omega)
    rw [sa] at g
    exact g
theorem n_fine {Z : jZ} {I0 I : jI} {L : jL} {v0 : Nat} {sz a F : Int} {Q : Int32 → jI → jL → Prop} (s : ML Z I0 v0 sz I a F) (h1 : F = -1 → Q 1 I L) (h2 : F ≠ -1 → Q 0 I L) : f_X12_fine v0 Z I L Q := by
  unfold f_X12_fine
  exact ⟨fun c => h2 ((not_congr (i_eq s.2.2.2.1 (show (-1 : Int32).toInt = -1 from rfl))).mp c), fun c => h1 ((i_eq s.2.2.2.1 (show (-1 : Int32).toInt = -1 from rfl)).mp c)⟩
theorem n_fault {Z : jZ} {I0 I : jI} {L : jL} {v0 uR : Nat} {sz a : Int} {y : Int32} {Q : jI → jL → Prop} (t : TMl Z I0 v0 uR sz) (s : ML Z I0 v0 sz I a (-1)) (h : ∀ I', ML Z I0 v0 sz I' a y.toInt → Q I' L) : f_X12_fault v0 y Z I L Q := by
  unfold f_X12_fault
  refine n_fine s (fun _ => ⟨fun c => absurd c (by decide), fun _ => ?_⟩) (fun c => absurd rfl c)
  intro I9 e9
  rw [e9]
  exact h _ (ML_flt t s)
theorem n_faultD {Z : jZ} {I0 I : jI} {L : jL} {v0 : Nat} {sz a F : Int} {y : Int32} {Q : jI → jL → Prop} (s : ML Z I0 v0 sz I a F) (hF : F ≠ -1) (h : Q I L) : f_X12_fault v0 y Z I L Q := by
  unfold f_X12_fault
  exact n_fine s (fun c => absurd c hF) (fun _ => ⟨fun _ => h, fun c => absurd rfl c⟩)
theorem n_pass {Z : jZ} {I0 I : jI} {L : jL} {v0 uR : Nat} {sz a : Int} {c : Int32} {k : Int} {Q : Int32 → jI → jL → Prop} (t : TMl Z I0 v0 uR sz) (s : ML Z I0 v0 sz I a (-1)) (h0 : 0 ≤ a ∧ a ≤ 100) (hk : c.toInt = k) (h1 : GS (I0 uR) (min sz 40) a = k → ∀ I', ML Z I0 v0 sz I' (a + 1) (-1) → Q 1 I' L) (h2 : GS (I0 uR) (min sz 40) a ≠ k → Q 0 I L) : f_X12_passes v0 c Z I L Q := by
  unfold f_X12_passes
  refine n_fine s (fun _ => ⟨fun c => absurd c (by decide), fun _ => ?_⟩) (fun c => absurd rfl c)
  refine n_here t s h0.1 (fun r hr => ⟨fun e => ?_, fun e => ?_⟩)
  · intro I17 e17
    rw [e17]
    have e := (i_eq rfl hk).mp e
    exact h1 (by omega) _ (ML_at t s h0)
  · have e := (not_congr (i_eq rfl hk)).mp e
    exact h2 (by omega)
theorem n_passD {Z : jZ} {I0 I : jI} {L : jL} {v0 : Nat} {sz a F : Int} {c : Int32} {Q : Int32 → jI → jL → Prop} (s : ML Z I0 v0 sz I a F) (hF : F ≠ -1) (h : Q 0 I L) : f_X12_passes v0 c Z I L Q := by
  unfold f_X12_passes
  exact n_fine s (fun c => absurd c hF) (fun _ => ⟨fun _ => h, fun c => absurd rfl c⟩)
theorem n_need {Z : jZ} {I0 I : jI} {L : jL} {v0 uR : Nat} {sz a : Int} {c : Int32} {k : Int} {Q : jI → jL → Prop} (t : TMl Z I0 v0 uR sz) (s : ML Z I0 v0 sz I a (-1)) (h0 : 0 ≤ a ∧ a ≤ 100) (hk : c.toInt = k) (h1 : GS (I0 uR) (min sz 40) a = k → ∀ I', ML Z I0 v0 sz I' (a + 1) (-1) → Q I' L) (h2 : GS (I0 uR) (min sz 40) a ≠ k → ∀ I', ML Z I0 v0 sz I' a a → Q I' L) : f_X12_need v0 c Z I L Q := by
  unfold f_X12_need
  refine n_pass t s h0 hk (fun g I' s' => ⟨fun _ => h1 g I' s', fun c => absurd c (by decide)⟩) (fun g => ⟨fun c => absurd rfl c, fun _ => ?_⟩)
  refine n_fault t s (fun I' s' => h2 g I' ?_)
  rw [s.2.2.1] at s'
  exact s'
theorem n_needD {Z : jZ} {I0 I : jI} {L : jL} {v0 : Nat} {sz a F : Int} {c : Int32} {Q : jI → jL → Prop} (s : ML Z I0 v0 sz I a F) (hF : F ≠ -1) (h : Q I L) : f_X12_need v0 c Z I L Q := by
  unfold f_X12_need
  exact n_passD s hF ⟨fun c => absurd rfl c, fun _ => n_faultD s hF h⟩
set_option maxHeartbeats 1000000 in
theorem n_num {Z : jZ} {I0 : jI} {L : jL} {v0 uR : Nat} {sz a : Int} {v4 : Int32} {Q : Int32 → jI → jL → Prop} (t : TMl Z I0 v0 uR sz) (e4 : v4.toInt = a) (h0 : 0 ≤ a ∧ a ≤ 40) (hd : 48 ≤ GS (I0 uR) (min sz 40) a ∧ GS (I0 uR) (min sz 40) a ≤ 57) (h : ∀ (v : Int32) I', v.toInt = nvd (GS (I0 uR) (min sz 40)) a (n3 (GS (I0 uR) (min sz 40)) a) → ML Z I0 v0 sz I' (a + n3 (GS (I0 uR) (min sz 40)) a) (-1) → Q v I' L) :
    ∀ (m : Nat) (v5 : Int32) (d : Nat) (I : jI), ML Z I0 v0 sz I (a + d) (-1) → N3 (GS (I0 uR) (min sz 40)) a d → v5.toInt = nvd (GS (I0 uR) (min sz 40)) a d → 4 ≤ m + d → f_X12_number_L18 Z Q m v0 3 0 999 v4 v5 I L := by
  have np := n3_pos hd
  have fin : ∀ (v5 : Int32) (d : Nat) (I : jI), ML Z I0 v0 sz I (a + d) (-1) → v5.toInt = nvd (GS (I0 uR) (min sz 40)) a d → n3 (GS (I0 uR) (min sz 40)) a = d → f_X12_number_b71 Z Q v0 0 999 v4 v5 I L := by
    intro v5 d I s e5 en
    have nv := N3_val (n3_is (g := GS (I0 uR) (min sz 40)) (a := a))
    rw [en] at nv np
    unfold f_X12_number_b71
    refine ⟨fun _ => ?_, fun c => ?_⟩
    · refine s_X12_in s.1 v5 0 999 (fun r16 p16 => ⟨fun g => ?_, fun g => ?_⟩)
      · unfold f_X12_number_b111
        exact n_fine s (fun _ => ⟨fun c => absurd c (by decide), fun _ => h v5 I (by rw [en]; exact e5) (by rw [en]; exact s)⟩) (fun c => absurd rfl c)
      · have g := (i_eq (x := r16) (y := 0) rfl (show (0 : Int32).toInt = 0 from rfl)).mp g
        rw [show (0 : Int32).toInt = 0 from rfl, show (999 : Int32).toInt = 999 from rfl] at p16
        omega
    · have c := (i_eq s.2.2.1 e4).mp c
      omega
  intro m
  induction m with
  | zero => intro v5 d I s hN e5 hm; have := hN.1; omega
  | succ m ih =>
    intro v5 d I s hN e5 hm
    have hd3 := hN.1
    have hv := N3_val hN
    have e43 : (v4 + (3 : Int32)).toInt = a + 3 := i_add e4 (show (3 : Int32).toInt = 3 from rfl) (by omega) (by omega)
    unfold f_X12_number_L18
    refine ⟨fun c => ?_, fun c => ?_⟩
    · have c := (i_le e43 s.2.2.1).mp c
      exact fin v5 d I s e5 (N3_end hN (Or.inl (by omega)))
    have c := (not_congr (i_le e43 s.2.2.1)).mp c
    refine n_here t s (by omega) (fun r hr => ?_)
    refine s_X12_in s.1 r 48 57 (fun r44 p44 => ?_)
    rw [show (48 : Int32).toInt = 48 from rfl, show (57 : Int32).toInt = 57 from rfl] at p44
    refine ⟨fun g => ?_, fun g => ?_⟩
    · have g := (i_eq (x := r44) (y := 0) rfl (show (0 : Int32).toInt = 0 from rfl)).mp g
      exact fin v5 d I s e5 (N3_end hN (Or.inr (by omega)))
    · have g := (not_congr (i_eq (x := r44) (y := 0) rfl (show (0 : Int32).toInt = 0 from rfl))).mp g
      refine n_here t s (by omega) (fun r2 hr2 => ?_)
      intro x53 e53 I54 e54
      rw [e54]
      have d53 : x53.toInt = nvd (GS (I0 uR) (min sz 40)) a (d + 1) := by
        show x53.toInt = nvd (GS (I0 uR) (min sz 40)) a d * 10 + GS (I0 uR) (min sz 40) (a + d) - 48
        rw [e53]
        exact (i_sub (i_add (i_mul (show (10 : Int32).toInt = 10 from rfl) e5 (by omega) (by omega)) hr2 (by omega) (by omega)) (show (48 : Int32).toInt = 48 from rfl) (by omega) (by omega)).trans (by omega)
      have s1 := ML_at t s (by omega)
      rw [show a + (d : Int) + 1 = a + ((d + 1 : Nat) : Int) by omega] at s1
      exact ih x53 (d + 1) _ s1 (N3_step hN (by omega) (by omega)) d53 (by omega)
theorem n_number {Z : jZ} {I0 I : jI} {L : jL} {v0 uR : Nat} {sz a : Int} {Q : Int32 → jI → jL → Prop} (t : TMl Z I0 v0 uR sz) (s : ML Z I0 v0 sz I a (-1)) (h0 : 0 ≤ a ∧ a ≤ 40) (hd : 48 ≤ GS (I0 uR) (min sz 40) a ∧ GS (I0 uR) (min sz 40) a ≤ 57) (h : ∀ (v : Int32) I', v.toInt = nvd (GS (I0 uR) (min sz 40)) a (n3 (GS (I0 uR) (min sz 40)) a) → ML Z I0 v0 sz I' (a + n3 (GS (I0 uR) (min sz 40)) a) (-1) → Q v I' L) : f_X12_number v0 3 0 999 Z I L Q := by
  unfold f_X12_number
  refine n_fine s (fun _ => ⟨fun _ => ?_, fun c => absurd c (by decide)⟩) (fun c => absurd rfl c)
  intro x63 e63
  have s0 : ML Z I0 v0 sz I (a + ((0 : Nat) : Int)) (-1) := by rw [show a + ((0 : Nat) : Int) = a by omega]; exact s
  exact ⟨4, n_num t (by rw [e63]; exact s.2.2.1) h0 hd h 4 0 0 I s0 N3_0 rfl (by omega)⟩
/-- what the letters say -/
def LTR (Z : jZ) (I0 : jI) (v0 : Nat) (sz : Int) (lt : Nat → Int32) : Prop := ∀ (F : FTR12) (c : Int32) (I : jI) (L : jL) (a : Int) (Q : Int32 → jI → jL → Prop), ML Z I0 v0 sz I a (-1) → 0 ≤ lix c.toInt → (∀ I' L', ML Z I0 v0 sz I' a (-1) → Q (lt (lix c.toInt).toNat) I' L') → ((¬ (I v0 31) = (-1 : Int32) → f_X12_letter v0 c Z I L Q) ∧ ((I v0 31) = (-1 : Int32) → Q (0 : Int32) I L))
/-- what each part of it does, by what the text says -/
def MC1 (Z : jZ) (I0 : jI) (v0 uR : Nat) (sz : Int) (lt : Nat → Int32) (d w cw : Nat) (sg : Int32 → Int32) : Prop := ∀ (D k : Nat) (a : Int) (r : Int × Int × List Int) (v1 : Int32) (I : jI) (L : jL) (Q : Int32 → jI → jL → Prop), PL (GS (I0 uR) (min sz 40)) d w k a = some r → ML Z I0 v0 sz I a (-1) → 0 ≤ a → a ≤ min sz 40 → v1.toInt = (k : Int) → k ≤ 4 → 4 * (4 - (k : Int)) + (4 - (cw : Int)) + (min sz 40 - a) ≤ (D : Int) → (∀ (v : Int32) I' L', ML Z I0 v0 sz I' r.1 r.2.1 → (r.2.1 = -1 → ∀ st, ev lt r.2.2 st = sg v :: st) → Q v I' L') → fR12 D cw v0 v1 Z I L Q
def MC6 (Z : jZ) (I0 : jI) (v0 uR : Nat) (sz : Int) (lt : Nat → Int32) (d : Nat) : Prop := ∀ (D k : Nat) (a : Int) (r : Int × Int × List Int) (v1 : Int32) (I : jI) (L : jL) (Q : Int32 → jI → jL → Prop), ¬ GS (I0 uR) (min sz 40) a = 45 → PL (GS (I0 uR) (min sz 40)) d 6 k a = some r → ML Z I0 v0 sz I a (-1) → 0 ≤ a → a ≤ min sz 40 → v1.toInt = (k : Int) → k ≤ 4 → 4 * (4 - (k : Int)) + (min sz 40 - a) ≤ (D : Int) → (∀ (v : Int32) I' L', ML Z I0 v0 sz I' r.1 r.2.1 → (r.2.1 = -1 → ∀ st, ev lt r.2.2 st = v :: st) → Q v I' L') → f_X12_thing (fR12 D) v0 v1 Z I L Q
def MC4 (Z : jZ) (I0 : jI) (v0 uR : Nat) (sz : Int) (lt : Nat → Int32) (d : Nat) : Prop := ∀ (D k m : Nat) (a : Int) (r : Int × Int × List Int) (v1 v2 : Int32) (I : jI) (L : jL) (Q : Int32 → jI → jL → Prop), PL (GS (I0 uR) (min sz 40)) d 4 k a = some r → ML Z I0 v0 sz I a (-1) → 0 ≤ a → a ≤ min sz 40 → v1.toInt = (k : Int) → k ≤ 4 → 4 * (4 - (k : Int)) + 1 + (min sz 40 - a) ≤ (D : Int) → min sz 40 - a < (m : Int) → (∀ (v : Int32) I' L', ML Z I0 v0 sz I' r.1 r.2.1 → (r.2.1 = -1 → ∀ st, ev lt r.2.2 (v2 :: st) = v :: st) → Q v I' L') → f_X12_sum_L6 (fR12 D) Z Q m v0 v1 v2 I L
def MC5 (Z : jZ) (I0 : jI) (v0 uR : Nat) (sz : Int) (lt : Nat → Int32) (d : Nat) : Prop := ∀ (D k m : Nat) (a : Int) (r : Int × Int × List Int) (v1 v2 : Int32) (I : jI) (L : jL) (Q : Int32 → jI → jL → Prop), PL (GS (I0 uR) (min sz 40)) d 5 k a = some r → ML Z I0 v0 sz I a (-1) → 0 ≤ a → a ≤ min sz 40 → v1.toInt = (k : Int) → k ≤ 4 → 4 * (4 - (k : Int)) + (min sz 40 - a) ≤ (D : Int) → min sz 40 - a < (m : Int) → (∀ (v : Int32) I' L', ML Z I0 v0 sz I' r.1 r.2.1 → (r.2.1 = -1 → ∀ st, ev lt r.2.2 (v2 :: st) = v :: st) → Q v I' L') → f_X12_product_L6 (fR12 D) Z Q m v0 v1 v2 I L
def MCa (Z : jZ) (I0 : jI) (v0 uR : Nat) (sz : Int) (lt : Nat → Int32) (d : Nat) : Prop := MC1 Z I0 v0 uR sz lt d 0 0 (fun v => v) ∧ MC1 Z I0 v0 uR sz lt d 1 1 (fun v => v) ∧ MC1 Z I0 v0 uR sz lt d 2 2 (fun v => v) ∧ MC1 Z I0 v0 uR sz lt d 3 3 (fun v => v) ∧ MC1 Z I0 v0 uR sz lt d 7 3 (fun v => -v) ∧ MC6 Z I0 v0 uR sz lt d ∧ MC4 Z I0 v0 uR sz lt d ∧ MC5 Z I0 v0 uR sz lt d
/-- the loops stop at a fault -/
theorem n_sumF {Z : jZ} {I0 I : jI} {L : jL} {D : FTR12} {v0 m : Nat} {sz a F : Int} {v1 v2 : Int32} {Q : Int32 → jI → jL → Prop} (s : ML Z I0 v0 sz I a F) (hF : F ≠ -1) (h : Q v2 I L) : f_X12_sum_L6 D Z Q (m + 1) v0 v1 v2 I L := by
  unfold f_X12_sum_L6
  exact n_fine s (fun g => absurd g hF) (fun _ => ⟨fun _ => h, fun e => absurd rfl e⟩)
theorem n_prodF {Z : jZ} {I0 I : jI} {L : jL} {D : FTR12} {v0 m : Nat} {sz a F : Int} {v1 v2 : Int32} {Q : Int32 → jI → jL → Prop} (s : ML Z I0 v0 sz I a F) (hF : F ≠ -1) (h : Q v2 I L) : f_X12_product_L6 D Z Q (m + 1) v0 v1 v2 I L := by
  unfold f_X12_product_L6
  exact n_fine s (fun g => absurd g hF) (fun _ => ⟨fun _ => h, fun e => absurd rfl e⟩)
set_option maxHeartbeats 4000000 in
theorem MC_held {Z : jZ} {I0 : jI} {v0 uR : Nat} {sz : Int} {lt : Nat → Int32} {d : Nat} (t : TMl Z I0 v0 uR sz) (ih : MCa Z I0 v0 uR sz lt d) : MC1 Z I0 v0 uR sz lt (d + 1) 0 0 (fun v => v) := by
  intro D k a r v1 I L Q hp s h0 h1 ek hk hD hQ
  obtain ⟨p, e, hp⟩ := PL_i0 hp
  obtain ⟨p1, p2, p3, p4⟩ := PL_ok GSx d 1 k a p (by omega) h0 h1 e
  cases D with
  | zero => omega
  | succ D =>
    show f_X12_held (fR12 D) v0 v1 Z I L Q
    unfold f_X12_held
    refine ih.2.1 D k a p v1 I L _ e s h0 h1 ek hk (by omega) (fun x I1 L1 s1 hx => ?_)
    by_cases b : p.2.1 = -1
    · rw [b] at s1
      have hx := hx b
      have go : ∀ (I2 : jI), ML Z I0 v0 sz I2 (p.1 + 1) (-1) → (GS (I0 uR) (min sz 40) p.1 = 60 ∨ GS (I0 uR) (min sz 40) p.1 = 62 ∨ GS (I0 uR) (min sz 40) p.1 = 61) → ∀ (Q' : Int32 → jI → jL → Prop), (∀ (y : Int32) I' L', (∀ (v : Int32), v = joi (GS (I0 uR) (min sz 40) p.1) x y → Q v I' L') → Q' y I' L') → fR12 D 1 v0 v1 Z I2 L1 Q' := by
        intro I2 s2 hg Q' hQ'
        rcases hp with ⟨-, -, t', e', hr⟩ | ⟨b2, -⟩
        · have l1 := GSlt (f := I0 uR) (lim := min sz 40) (x := p.1) (by omega)
          refine ih.2.1 D k (p.1 + 1) t' v1 I2 L1 Q' e' s2 (by omega) l1 ek hk (by omega) (fun y I3 L3 s3 hy => hQ' y I3 L3 (fun v ev0 => hQ v I3 L3 ?_ (fun q st => ?_)))
          · rw [hr]; exact s3
          · rw [hr] at q ⊢
            show ev lt (p.2.2 ++ t'.2.2 ++ [2000 + GS (I0 uR) (min sz 40) p.1]) st = v :: st
            rw [ev_app, ev_app, hx, hy q, ev_op (by omega), ev0]
        · exact absurd ⟨b, hg⟩ b2
      refine n_pass (k := 60) t s1 (by omega) rfl (fun g I2 s2 => ⟨fun q => absurd q (by decide), fun _ => ?_⟩) (fun g => ⟨fun _ => ?_, fun q => absurd rfl q⟩)
      · refine go I2 s2 (Or.inl g) _ (fun y I3 L3 hv => ?_)
        rw [g] at hv
        refine ⟨fun q => hv _ ?_, fun q => hv _ ?_⟩
        · have q := (i_le (x := y) (y := x) rfl rfl).mp q
          rw [joi_lt, if_neg (fun z => by have := (i_lt (x := x) (y := y) rfl rfl).mp z; omega)]
        · have q := (not_congr (i_le (x := y) (y := x) rfl rfl)).mp q
          rw [joi_lt, if_pos ((i_lt (x := x) (y := y) rfl rfl).mpr (by omega))]
      refine n_pass (k := 62) t s1 (by omega) rfl (fun g2 I2 s2 => ⟨fun q => absurd q (by decide), fun _ => ?_⟩) (fun g2 => ⟨fun _ => ?_, fun q => absurd rfl q⟩)
      · refine go I2 s2 (Or.inr (Or.inl g2)) _ (fun y I3 L3 hv => ?_)
        rw [g2] at hv
        refine ⟨fun q => hv _ ?_, fun q => hv _ ?_⟩
        · have q := (i_le (x := x) (y := y) rfl rfl).mp q
          rw [joi_gt, if_neg (fun z => by have := (i_lt (x := y) (y := x) rfl rfl).mp z; omega)]
        · have q := (not_congr (i_le (x := x) (y := y) rfl rfl)).mp q
          rw [joi_gt, if_pos ((i_lt (x := y) (y := x) rfl rfl).mpr (by omega))]
      refine n_pass (k := 61) t s1 (by omega) rfl (fun g3 I2 s2 => ⟨fun q => absurd q (by decide), fun _ => ?_⟩) (fun g3 => ⟨fun _ => ?_, fun q => absurd rfl q⟩)
      · refine go I2 s2 (Or.inr (Or.inr g3)) _ (fun y I3 L3 hv => ?_)
        rw [g3] at hv
        refine ⟨fun q => hv _ ?_, fun q => hv _ ?_⟩
        · rw [joi_eq, if_neg q]
        · rw [joi_eq, if_pos q]
      · rcases hp with ⟨-, b2, -⟩ | ⟨-, hr⟩
        · omega
        · rw [hr] at hQ
          exact hQ x I1 L1 (by rw [b]; exact s1) (fun _ => hx)
    · rcases hp with ⟨b2, -⟩ | ⟨-, hr⟩
      · exact absurd b2 b
      · rw [hr] at hQ
        exact n_passD s1 b ⟨fun _ => n_passD s1 b ⟨fun _ => n_passD s1 b ⟨fun _ => hQ x I1 L1 s1 (fun q => absurd q b), fun q => absurd rfl q⟩, fun q => absurd rfl q⟩, fun q => absurd rfl q⟩
set_option maxHeartbeats 4000000 in
theorem MC_sum {Z : jZ} {I0 : jI} {v0 uR : Nat} {sz : Int} {lt : Nat → Int32} {d : Nat} (t : TMl Z I0 v0 uR sz) (ih : MCa Z I0 v0 uR sz lt d) : MC1 Z I0 v0 uR sz lt (d + 1) 1 1 (fun v => v) := by
  intro D k a r v1 I L Q hp s h0 h1 ek hk hD hQ
  obtain ⟨p, e, hp⟩ := PL_i1 hp
  obtain ⟨p1, p2, p3, p4⟩ := PL_ok GSx d 2 k a p (by omega) h0 h1 e
  cases D with
  | zero => omega
  | succ D =>
    show f_X12_sum (fR12 D) v0 v1 Z I L Q
    unfold f_X12_sum
    refine ih.2.2.1 D k a p v1 I L _ e s h0 h1 ek hk (by omega) (fun x I1 L1 s1 hx => ⟨41 + 1, ?_⟩)
    rcases hp with ⟨b, t', e', hr⟩ | ⟨b, hr⟩
    · rw [b] at s1
      have hx := hx b
      refine ih.2.2.2.2.2.2.1 D k (41 + 1) p.1 t' v1 x I1 L1 Q e' s1 (by omega) p2 ek hk (by omega) (by omega) (fun v I' L' s' hv => hQ v I' L' ?_ (fun q st => ?_))
      · rw [hr]; exact s'
      · rw [hr] at q ⊢
        show ev lt (p.2.2 ++ t'.2.2) st = v :: st
        rw [ev_app, hx, hv q]
    · rw [hr] at hQ
      exact n_sumF s1 b (hQ x I1 L1 s1 (fun q => absurd q b))
set_option maxHeartbeats 4000000 in
theorem MC_prod {Z : jZ} {I0 : jI} {v0 uR : Nat} {sz : Int} {lt : Nat → Int32} {d : Nat} (t : TMl Z I0 v0 uR sz) (ih : MCa Z I0 v0 uR sz lt d) : MC1 Z I0 v0 uR sz lt (d + 1) 2 2 (fun v => v) := by
  intro D k a r v1 I L Q hp s h0 h1 ek hk hD hQ
  obtain ⟨p, e, hp⟩ := PL_i2 hp
  obtain ⟨p1, p2, p3, p4⟩ := PL_ok GSx d 3 k a p (by omega) h0 h1 e
  cases D with
  | zero => omega
  | succ D =>
    show f_X12_product (fR12 D) v0 v1 Z I L Q
    unfold f_X12_product
    refine ih.2.2.2.1 D k a p v1 I L _ e s h0 h1 ek hk (by omega) (fun x I1 L1 s1 hx => ⟨41 + 1, ?_⟩)
    rcases hp with ⟨b, t', e', hr⟩ | ⟨b, hr⟩
    · rw [b] at s1
      have hx := hx b
      refine ih.2.2.2.2.2.2.2 D k (41 + 1) p.1 t' v1 x I1 L1 Q e' s1 (by omega) p2 ek hk (by omega) (by omega) (fun v I' L' s' hv => hQ v I' L' ?_ (fun q st => ?_))
      · rw [hr]; exact s'
      · rw [hr] at q ⊢
        show ev lt (p.2.2 ++ t'.2.2) st = v :: st
        rw [ev_app, hx, hv q]
    · rw [hr] at hQ
      exact n_prodF s1 b (hQ x I1 L1 s1 (fun q => absurd q b))
set_option maxHeartbeats 4000000 in
theorem MC_l4 {Z : jZ} {I0 : jI} {v0 uR : Nat} {sz : Int} {lt : Nat → Int32} {d : Nat} (t : TMl Z I0 v0 uR sz) (ih : MCa Z I0 v0 uR sz lt d) : MC4 Z I0 v0 uR sz lt (d + 1) := by
  intro D k m a r v1 v2 I L Q hp s h0 h1 ek hk hD hm hQ
  cases m with
  | zero => omega
  | succ m =>
    unfold f_X12_sum_L6
    refine n_fine s (fun _ => ⟨fun q => absurd q (by decide), fun _ => ?_⟩) (fun q => absurd rfl q)
    have go : ∀ (o : Int) (b1 : Int32) (I2 : jI), GS (I0 uR) (min sz 40) a = o → (o = 43 ∧ b1 = 1 ∨ o = 45 ∧ b1 = 0) → ML Z I0 v0 sz I2 a (-1) → f_X12_sum_b45 (fR12 D) (f_X12_sum_L6 (fR12 D) Z Q m) Z Q v0 v1 v2 b1 I2 L := by
      intro o b1 I2 ho hb s2
      rcases PL_i4 hp with ⟨-, p, e, hp⟩ | ⟨b, -⟩
      · have l1 := GSlt (f := I0 uR) (lim := min sz 40) (x := a) (by omega)
        obtain ⟨p1, p2, p3, p4⟩ := PL_ok GSx d 2 k (a + 1) p (by omega) (by omega) l1 e
        unfold f_X12_sum_b45
        intro I3 e3
        rw [e3]
        refine ih.2.2.1 D k (a + 1) p v1 _ L _ e (ML_at t s2 (by omega)) (by omega) l1 ek hk (by omega) (fun x I4 L4 s4 hx => ?_)
        have fin : ∀ v : Int32, v = joi o v2 x → f_X12_sum_b78 (fR12 D) (f_X12_sum_L6 (fR12 D) Z Q m) Z Q v0 v1 v I4 L4 := by
          intro v hv
          unfold f_X12_sum_b78
          rcases hp with ⟨b, t', e', hr⟩ | ⟨b, hr⟩
          · rw [b] at s4
            have hx := hx b
            refine ih.2.2.2.2.2.2.1 D k m p.1 t' v1 v I4 L4 Q e' s4 (by omega) p2 ek hk (by have := (p4 b).1 (by omega) (by omega); omega) (by have := (p4 b).1 (by omega) (by omega); omega) (fun y I' L' s' hy => hQ y I' L' ?_ (fun q st => ?_))
            · rw [hr]; exact s'
            · rw [hr] at q ⊢
              show ev lt (p.2.2 ++ [2000 + GS (I0 uR) (min sz 40) a] ++ t'.2.2) (v2 :: st) = y :: st
              rw [ev_app, ev_app, hx, ho, ev_op (by omega), ← hv, hy q]
          · cases m with
            | zero => omega
            | succ m =>
              rw [hr] at hQ
              exact n_sumF s4 b (hQ v I4 L4 s4 (fun q => absurd q b))
        rcases hb with ⟨rfl, rfl⟩ | ⟨rfl, rfl⟩
        · exact ⟨fun q => absurd q (by decide), fun _ => fin _ joi_add.symm⟩
        · exact ⟨fun _ => fin _ joi_sub.symm, fun q => absurd rfl q⟩
      · omega
    refine n_here t s h0 (fun x hx => ⟨fun q => ?_, fun q => ?_⟩)
    · have q := (i_eq hx (show (43 : Int32).toInt = 43 from rfl)).mp q
      unfold f_X12_sum_b31
      refine n_here t s h0 (fun y hy => ⟨fun q2 => ?_, fun _ => go 43 1 I q (Or.inl ⟨rfl, rfl⟩) s⟩)
      exact absurd ((i_eq hy (show (43 : Int32).toInt = 43 from rfl)).mpr q) q2
    · have q := (not_congr (i_eq hx (show (43 : Int32).toInt = 43 from rfl))).mp q
      refine n_here t s h0 (fun y hy => ⟨fun q2 => ?_, fun q2 => ?_⟩)
      · have q2 := (not_congr (i_eq hy (show (45 : Int32).toInt = 45 from rfl))).mp q2
        rcases PL_i4 hp with ⟨b, -⟩ | ⟨-, hr⟩
        · omega
        · rw [hr] at hQ
          exact hQ v2 I L s (fun _ st => rfl)
      · have q2 := (i_eq hy (show (45 : Int32).toInt = 45 from rfl)).mp q2
        unfold f_X12_sum_b31
        refine n_here t s h0 (fun z hz => ⟨fun _ => go 45 0 I q2 (Or.inr ⟨rfl, rfl⟩) s, fun q3 => ?_⟩)
        exact absurd ((i_eq hz (show (43 : Int32).toInt = 43 from rfl)).mp q3) q
set_option maxHeartbeats 4000000 in
theorem MC_l5 {Z : jZ} {I0 : jI} {v0 uR : Nat} {sz : Int} {lt : Nat → Int32} {d : Nat} (t : TMl Z I0 v0 uR sz) (ih : MCa Z I0 v0 uR sz lt d) : MC5 Z I0 v0 uR sz lt (d + 1) := by
  intro D k m a r v1 v2 I L Q hp s h0 h1 ek hk hD hm hQ
  cases m with
  | zero => omega
  | succ m =>
    unfold f_X12_product_L6
    refine n_fine s (fun _ => ⟨fun q => absurd q (by decide), fun _ => ?_⟩) (fun q => absurd rfl q)
    have go : ∀ (o : Int) (b1 : Int32) (I2 : jI), GS (I0 uR) (min sz 40) a = o → (o = 42 ∧ b1 = 1 ∨ o = 47 ∧ b1 = 0) → ML Z I0 v0 sz I2 a (-1) → f_X12_product_b45 (fR12 D) (f_X12_product_L6 (fR12 D) Z Q m) Z Q v0 v1 v2 b1 I2 L := by
      intro o b1 I2 ho hb s2
      rcases PL_i5 hp with ⟨-, p, e, hp⟩ | ⟨b, -⟩
      · have l1 := GSlt (f := I0 uR) (lim := min sz 40) (x := a) (by omega)
        obtain ⟨p1, p2, p3, p4⟩ := PL_ok GSx d 3 k (a + 1) p (by omega) (by omega) l1 e
        unfold f_X12_product_b45
        intro I3 e3
        rw [e3]
        refine ih.2.2.2.1 D k (a + 1) p v1 _ L _ e (ML_at t s2 (by omega)) (by omega) l1 ek hk (by omega) (fun x I4 L4 s4 hx => ?_)
        have fin : ∀ v : Int32, v = joi o v2 x → f_X12_product_b87 (fR12 D) (f_X12_product_L6 (fR12 D) Z Q m) Z Q v0 v1 v I4 L4 := by
          intro v hv
          unfold f_X12_product_b87
          rcases hp with ⟨b, t', e', hr⟩ | ⟨b, hr⟩
          · rw [b] at s4
            have hx := hx b
            refine ih.2.2.2.2.2.2.2 D k m p.1 t' v1 v I4 L4 Q e' s4 (by omega) p2 ek hk (by have := (p4 b).1 (by omega) (by omega); omega) (by have := (p4 b).1 (by omega) (by omega); omega) (fun y I' L' s' hy => hQ y I' L' ?_ (fun q st => ?_))
            · rw [hr]; exact s'
            · rw [hr] at q ⊢
              show ev lt (p.2.2 ++ [2000 + GS (I0 uR) (min sz 40) a] ++ t'.2.2) (v2 :: st) = y :: st
              rw [ev_app, ev_app, hx, ho, ev_op (by omega), ← hv, hy q]
          · cases m with
            | zero => omega
            | succ m =>
              rw [hr] at hQ
              exact n_prodF s4 b (hQ v I4 L4 s4 (fun q => absurd q b))
        rcases hb with ⟨rfl, rfl⟩ | ⟨rfl, rfl⟩
        · exact ⟨fun q => absurd q (by decide), fun _ => fin _ joi_mul.symm⟩
        · refine ⟨fun _ => ⟨fun q => ⟨q, fin _ ?_⟩, fun q => fin _ ?_⟩, fun q => absurd rfl q⟩
          · rw [joi_div, if_neg q]
          · rw [joi_div, if_pos q]
      · omega
    refine n_here t s h0 (fun x hx => ⟨fun q => ?_, fun q => ?_⟩)
    · have q := (i_eq hx (show (42 : Int32).toInt = 42 from rfl)).mp q
      unfold f_X12_product_b31
      refine n_here t s h0 (fun y hy => ⟨fun q2 => ?_, fun _ => go 42 1 I q (Or.inl ⟨rfl, rfl⟩) s⟩)
      exact absurd ((i_eq hy (show (42 : Int32).toInt = 42 from rfl)).mpr q) q2
    · have q := (not_congr (i_eq hx (show (42 : Int32).toInt = 42 from rfl))).mp q
      refine n_here t s h0 (fun y hy => ⟨fun q2 => ?_, fun q2 => ?_⟩)
      · have q2 := (not_congr (i_eq hy (show (47 : Int32).toInt = 47 from rfl))).mp q2
        rcases PL_i5 hp with ⟨b, -⟩ | ⟨-, hr⟩
        · omega
        · rw [hr] at hQ
          exact hQ v2 I L s (fun _ st => rfl)
      · have q2 := (i_eq hy (show (47 : Int32).toInt = 47 from rfl)).mp q2
        unfold f_X12_product_b31
        refine n_here t s h0 (fun z hz => ⟨fun _ => go 47 0 I q2 (Or.inr ⟨rfl, rfl⟩) s, fun q3 => ?_⟩)
        exact absurd ((i_eq hz (show (42 : Int32).toInt = 42 from rfl)).mp q3) q
theorem ng_ng {v : Int32} : -(-v) = v := Int32.neg_neg
set_option maxHeartbeats 4000000 in
theorem MC_t3 {Z : jZ} {I0 : jI} {v0 uR : Nat} {sz : Int} {lt : Nat → Int32} {d : Nat} (t : TMl Z I0 v0 uR sz) (ih : MCa Z I0 v0 uR sz lt d) : MC1 Z I0 v0 uR sz lt (d + 1) 3 3 (fun v => v) := by
  intro D k a r v1 I L Q hp s h0 h1 ek hk hD hQ
  cases D with
  | zero => omega
  | succ D =>
    show f_X12_thing (fR12 D) v0 v1 Z I L Q
    rcases PL_i3 hp with ⟨b, e⟩ | ⟨b, e⟩
    · have l1 := GSlt (f := I0 uR) (lim := min sz 40) (x := a) (by omega)
      unfold f_X12_thing
      refine n_pass (k := 45) t s (by omega) rfl (fun _ I2 s2 => ⟨fun q => absurd q (by decide), fun _ => ?_⟩) (fun g => absurd b g)
      exact ih.2.2.2.2.1 D k (a + 1) r v1 I2 L _ e s2 (by omega) l1 ek hk (by omega) (fun v I' L' s' hv => hQ (-v) I' L' s' (fun q st => hv q st))
    · exact ih.2.2.2.2.2.1 D k a r v1 I L Q b e s h0 h1 ek hk (by omega) (fun v I' L' s' hv => hQ v I' L' s' hv)
set_option maxHeartbeats 4000000 in
theorem MC_t7 {Z : jZ} {I0 : jI} {v0 uR : Nat} {sz : Int} {lt : Nat → Int32} {d : Nat} (t : TMl Z I0 v0 uR sz) (ih : MCa Z I0 v0 uR sz lt d) : MC1 Z I0 v0 uR sz lt (d + 1) 7 3 (fun v => -v) := by
  intro D k a r v1 I L Q hp s h0 h1 ek hk hD hQ
  cases D with
  | zero => omega
  | succ D =>
    show f_X12_thing (fR12 D) v0 v1 Z I L Q
    rcases PL_i7 hp with ⟨b, e⟩ | ⟨b, p, e, hr⟩
    · have l1 := GSlt (f := I0 uR) (lim := min sz 40) (x := a) (by omega)
      unfold f_X12_thing
      refine n_pass (k := 45) t s (by omega) rfl (fun _ I2 s2 => ⟨fun q => absurd q (by decide), fun _ => ?_⟩) (fun g => absurd b g)
      exact ih.2.2.2.1 D k (a + 1) r v1 I2 L _ e s2 (by omega) l1 ek hk (by omega) (fun v I' L' s' hv => hQ (-v) I' L' s' (fun q st => by
        show ev lt r.2.2 st = (-(-v)) :: st
        rw [ng_ng]
        exact hv q st))
    · rw [hr] at hQ
      exact ih.2.2.2.2.2.1 D k a p v1 I L Q b e s h0 h1 ek hk (by omega) (fun v I' L' s' hv => hQ v I' L' s' (fun q st => by
        show ev lt (p.2.2 ++ [2000]) st = (-v) :: st
        rw [ev_app, hv q, ev_neg]))
set_option maxHeartbeats 4000000 in
theorem MC_t6 {Z : jZ} {I0 : jI} {v0 uR : Nat} {sz : Int} {lt : Nat → Int32} {d : Nat} (t : TMl Z I0 v0 uR sz) (hl : LTR Z I0 v0 sz lt) (ih : MCa Z I0 v0 uR sz lt d) : MC6 Z I0 v0 uR sz lt (d + 1) := by
  intro D k a r v1 I L Q ng hp s h0 h1 ek hk hD hQ
  have hp := PL_i6 hp
  unfold f_X12_thing
  refine n_pass (k := 45) t s (by omega) rfl (fun g => absurd g ng) (fun _ => ⟨fun _ => ?_, fun q => absurd rfl q⟩)
  refine n_fine s (fun _ => ⟨fun _ => ?_, fun q => absurd q (by decide)⟩) (fun q => absurd rfl q)
  refine n_here t s h0 (fun x hx => ?_)
  have oth : ¬ (GS (I0 uR) (min sz 40) a = 40 ∧ k < 4) → f_X12_thing_b67 (fR12 D) Z Q v0 x I L := by
    intro n4
    unfold f_X12_thing_b67
    refine s_X12_in s.1 x 48 57 (fun r16 p16 => ?_)
    rw [show (48 : Int32).toInt = 48 from rfl, show (57 : Int32).toInt = 57 from rfl] at p16
    refine ⟨fun g => ?_, fun g => ?_⟩
    · have g := (i_eq (x := r16) (y := 0) rfl (show (0 : Int32).toInt = 0 from rfl)).mp g
      have letr : 0 ≤ lix x.toInt → f_X12_thing_b140 (fR12 D) Z Q v0 x I L := by
        intro hlx
        have lr := lix_0 hlx
        rcases hp with ⟨b, -⟩ | ⟨-, -, hr⟩ | ⟨-, b, -⟩ | ⟨-, b, -⟩
        · omega
        · unfold f_X12_thing_b140
          intro I1 e1
          rw [e1]
          have s1 := ML_at t s (by omega)
          have e16 := u16_id (x := x) rfl (by omega) (by omega)
          rw [e16]
          have lg := lix_rng x.toInt
          refine hl (fR12 D) x _ L (a + 1) Q s1 hlx (fun I' L' s' => ?_)
          rw [hr] at hQ
          refine hQ _ I' L' s' (fun _ st => ?_)
          show ev lt [1000 + lix (GS (I0 uR) (min sz 40) a)] st = _
          rw [← hx, ev_let ⟨hlx, lg.2⟩]
        · rw [← hx] at b; exact absurd hlx b
        · rw [← hx] at b; exact absurd hlx b
      have nx : ∀ (c : Int32) (v : Int), c.toInt = v → ¬ x = c → ¬ x.toInt = v := fun c v hc q q2 => q ((i_eq rfl hc).mpr q2)
      have lt0 : ∀ (c : Int32) (v : Int), c.toInt = v → 0 ≤ lix v → x = c → f_X12_thing_b140 (fR12 D) Z Q v0 x I L := fun c v hc hv q => letr (by rw [(i_eq rfl hc).mp q]; exact hv)
      refine ⟨lt0 97 97 rfl (by decide), fun c1 => ⟨lt0 114 114 rfl (by decide), fun c2 => ⟨lt0 115 115 rfl (by decide), fun c3 => ⟨lt0 119 119 rfl (by decide), fun c4 => ⟨lt0 120 120 rfl (by decide), fun c5 => ⟨lt0 108 108 rfl (by decide), fun c6 => ⟨lt0 106 106 rfl (by decide), fun c7 => ?_⟩⟩⟩⟩⟩⟩⟩
      have hno : ¬ 0 ≤ lix x.toInt := by
        unfold lix
        rw [if_neg (nx 97 97 rfl c1), if_neg (nx 114 114 rfl c2), if_neg (nx 115 115 rfl c3), if_neg (nx 119 119 rfl c4), if_neg (nx 120 120 rfl c5), if_neg (nx 108 108 rfl c6), if_neg (nx 106 106 rfl c7)]
        decide
      rw [hx] at hno
      refine n_fault t s (fun I' s' => ?_)
      rw [s.2.2.1] at s'
      rcases hp with ⟨b, -⟩ | ⟨-, b, -⟩ | ⟨-, -, b, -⟩ | ⟨-, -, -, hr⟩
      · omega
      · exact absurd b hno
      · exact absurd b n4
      · rw [hr] at hQ
        exact hQ 0 I' L s' (fun q => by
          have q : a = -1 := q
          omega)
    · have g := (not_congr (i_eq (x := r16) (y := 0) rfl (show (0 : Int32).toInt = 0 from rfl))).mp g
      rcases hp with ⟨b, hr⟩ | ⟨b, -⟩ | ⟨b, -⟩ | ⟨b, -⟩
      · refine n_number t s (by omega) b (fun v I' hv s' => ?_)
        have nv := N3_val (n3_is (g := GS (I0 uR) (min sz 40)) (a := a))
        rw [hr] at hQ
        exact hQ v I' L s' (fun _ st => ev_num hv (by omega))
      · omega
      · omega
      · omega
  refine ⟨fun q => oth (fun g => ?_), fun q => ⟨fun q2 => oth (fun g => ?_), fun q2 => ?_⟩⟩
  · exact q ((i_eq hx (show (40 : Int32).toInt = 40 from rfl)).mpr g.1)
  · have q2 := (i_le (show (4 : Int32).toInt = 4 from rfl) ek).mp q2
    omega
  · have q := (i_eq hx (show (40 : Int32).toInt = 40 from rfl)).mp q
    have q2 := (not_congr (i_le (show (4 : Int32).toInt = 4 from rfl) ek)).mp q2
    have l1 := GSlt (f := I0 uR) (lim := min sz 40) (x := a) (by omega)
    intro I63 e63
    rw [e63]
    rcases hp with ⟨b, -⟩ | ⟨-, b, -⟩ | ⟨-, -, -, p, e, hp⟩ | ⟨-, -, b, -⟩
    · omega
    · have := lix_0 b
      omega
    · obtain ⟨p1, p2, p3, p4⟩ := PL_ok GSx d 0 (k + 1) (a + 1) p (by omega) (by omega) l1 e
      have ek1 : (v1 + (1 : Int32)).toInt = ((k + 1 : Nat) : Int) := (i_add ek (show (1 : Int32).toInt = 1 from rfl) (by omega) (by omega)).trans (by omega)
      refine ih.1 D (k + 1) (a + 1) p _ _ L _ e (ML_at t s (by omega)) (by omega) l1 ek1 (by omega) (by omega) (fun v I1 L1 s1 hv => ?_)
      by_cases b : p.2.1 = -1
      · rw [b] at s1
        refine n_need (k := 41) t s1 (by omega) rfl (fun g I2 s2 => ?_) (fun g I2 s2 => ?_)
        · rcases hp with ⟨-, -, hr⟩ | ⟨-, b2, -⟩ | ⟨b2, -⟩
          · rw [hr] at hQ; exact hQ v I2 L1 s2 (fun _ => hv b)
          · exact absurd g b2
          · exact absurd b b2
        · rcases hp with ⟨-, b2, -⟩ | ⟨-, -, hr⟩ | ⟨b2, -⟩
          · exact absurd b2 g
          · rw [hr] at hQ
            exact hQ v I2 L1 s2 (fun q9 => by
              have q9 : p.1 = -1 := q9
              omega)
          · exact absurd b b2
      · rcases hp with ⟨b2, -⟩ | ⟨b2, -⟩ | ⟨-, hr⟩
        · exact absurd b2 b
        · exact absurd b2 b
        · rw [hr] at hQ
          exact n_needD s1 b (hQ v I1 L1 s1 (fun q9 => absurd q9 b))
    · omega
theorem MC_all {Z : jZ} {I0 : jI} {v0 uR : Nat} {sz : Int} {lt : Nat → Int32} (t : TMl Z I0 v0 uR sz) (hl : LTR Z I0 v0 sz lt) : ∀ d, MCa Z I0 v0 uR sz lt d := by
  intro d
  induction d with
  | zero => exact ⟨fun _ _ _ _ _ _ _ _ h => (by cases h), fun _ _ _ _ _ _ _ _ h => (by cases h), fun _ _ _ _ _ _ _ _ h => (by cases h), fun _ _ _ _ _ _ _ _ h => (by cases h), fun _ _ _ _ _ _ _ _ h => (by cases h), fun _ _ _ _ _ _ _ _ _ h => (by cases h), fun _ _ _ _ _ _ _ _ _ _ h => (by cases h), fun _ _ _ _ _ _ _ _ _ _ h => (by cases h)⟩
  | succ d ih => exact ⟨MC_held t ih, MC_sum t ih, MC_prod t ih, MC_t3 t ih, MC_t7 t ih, MC_t6 t hl ih, MC_l4 t ih, MC_l5 t ih⟩
end
