/-! ===== p1: the calls at a new pool ===== -/
/-- of the class's object: no pilgrim, no step -/
def XN (Z : jZ) (I : jI) (v0 : Nat) : Prop := I v0 4 = 0 ∧ (∀ b, jr Z v0 2 = some b → I b 9 = 0) ∧ ∀ j, I v0 j = 0
/-- of the model's object: its numbers as they were made, but 'thrown' -/
def MN (I : jI) (v0 : Nat) : Prop := ∀ j, j ≠ 22 → I v0 j = jz 12 j
theorem MN.put {I : jI} {v0 : Nat} {x : Int32} (h : MN I v0) : MN (jpI I v0 22 x) v0 := fun j hj => by
  show va_up I v0 (upd (I v0) 22 x) v0 j = jz 12 j
  rw [va_up_self]
  exact (by simp [upd, hj] : upd (I v0) 22 x j = I v0 j).trans (h j hj)
theorem find0 {v0 : Nat} {v1 : Int32} {Z : jZ} {I : jI} {L : jL} {Q : Option Nat → jI → jL → Prop} (h4 : I v0 4 = 0) (h : Q none I L) : f_X11_find v0 v1 Z I L Q := by
  unfold f_X11_find
  refine ⟨fun _ => h, fun c => ⟨fun _ => h, fun e => ?_⟩⟩
  rw [h4] at e
  exact absurd (Int32.not_lt.mp c) e
theorem has0 {b : Nat} {v1 : Int32} {Z : jZ} {I : jI} {L : jL} {Q : Int32 → jI → jL → Prop} (h9 : I b 9 = 0) (h : Q 0 I L) : f_X8_has b v1 Z I L Q := by
  unfold f_X8_has
  refine ⟨fun _ => h, fun c => ⟨fun _ => h, fun e => ?_⟩⟩
  rw [h9] at e
  exact absurd (Int32.not_lt.mp c) e
theorem in0 {a n : Int32} {Z : jZ} {I : jI} {L : jL} {Q : Int32 → jI → jL → Prop} (hn : n = 0) (h : Q 0 I L) : f_X12_in a 0 (n - 1) Z I L Q := by
  subst hn
  unfold f_X12_in
  refine ⟨fun _ => h, fun c => ⟨fun _ => h, fun e => ?_⟩⟩
  have c' : (0 : Int32) ≤ a := Int32.not_lt.mp c
  exact absurd (Int32.lt_of_lt_of_le (by decide : (0 - 1 : Int32) < 0) c') e
theorem isOne0 {v0 : Nat} {v1 : Int32} {Z : jZ} {I : jI} {L : jL} {Q : Int32 → jI → jL → Prop} (h0 : MN I v0) (h : Q 0 I L) : f_X12_isOne v0 v1 Z I L Q := by
  unfold f_X12_isOne
  exact in0 (h0 8 (by decide)) h
theorem isStep0 {v0 : Nat} {v1 : Int32} {Z : jZ} {I : jI} {L : jL} {Q : Int32 → jI → jL → Prop} (h0 : MN I v0) (h : Q 0 I L) : f_X12_isStep v0 v1 Z I L Q := by
  unfold f_X12_isStep
  exact in0 (h0 0 (by decide)) h
theorem inA {a b n : Int32} {Z : jZ} {I : jI} {L : jL} {Q : Int32 → jI → jL → Prop} (h : ∀ r, Q r I L) : f_X12_in a b n Z I L Q := by
  unfold f_X12_in
  exact ⟨fun _ => h _, fun _ => ⟨fun _ => h _, fun _ => h _⟩⟩
theorem isCostA {v : Int32} {Z : jZ} {I : jI} {L : jL} {Q : Int32 → jI → jL → Prop} (h : ∀ r, Q r I L) : f_X12_isCost v Z I L Q := by
  unfold f_X12_isCost
  exact inA h
theorem lost1 {v0 : Nat} {Z : jZ} {I : jI} {L : jL} {Q : Int32 → jI → jL → Prop} (h : ∀ I, I v0 22 = 1 → Q 0 I L) : f_X12_lost v0 Z I L Q := by
  unfold f_X12_lost
  intro I1 e1
  refine h I1 ?_
  rw [e1]
  show va_up I v0 (upd (I v0) 22 1) v0 22 = 1
  rw [va_up_self]
  simp [upd]
theorem x_set {v1 v2 v3 : Int32} {v0 : Nat} {Z : jZ} {I : jI} {L : jL} {Q : Int32 → jI → jL → Prop} (h0 : XN Z I v0) (h : Q (-1) I L) : f_X11_set v0 v1 v2 v3 Z I L Q := by
  unfold f_X11_set
  intro b eb
  exact has0 (h0.2.1 b eb) ⟨fun _ => h, fun e => absurd rfl e⟩
theorem x_vow {v1 v2 : Int32} {v0 : Nat} {Z : jZ} {I : jI} {L : jL} {Q : Int32 → jI → jL → Prop} (h0 : XN Z I v0) (h : Q (-1) I L) : f_X11_vow v0 v1 v2 Z I L Q := by
  unfold f_X11_vow
  exact find0 h0.1 ⟨fun _ => h, fun _ e => nomatch e⟩
theorem x_costs {v1 v2 : Int32} {v0 : Nat} {Z : jZ} {I : jI} {L : jL} {Q : Int32 → jI → jL → Prop} (h0 : XN Z I v0) (h : Q (-1) I L) : f_X11_costs v0 v1 v2 Z I L Q := by
  unfold f_X11_costs
  exact find0 h0.1 ⟨fun _ => h, fun _ e => nomatch e⟩
theorem x_tread {v1 v2 : Int32} {v0 : Nat} {Z : jZ} {I : jI} {L : jL} {Q : Int32 → jI → jL → Prop} (h0 : XN Z I v0) (h : Q (-1) I L) : f_X11_tread v0 v1 v2 Z I L Q := by
  unfold f_X11_tread
  exact find0 h0.1 ⟨fun _ => h, fun _ e => nomatch e⟩
theorem x_rests {v1 v2 : Int32} {v0 : Nat} {Z : jZ} {I : jI} {L : jL} {Q : Int32 → jI → jL → Prop} (h0 : XN Z I v0) (h : Q (-1) I L) : f_X11_rests v0 v1 v2 Z I L Q := by
  unfold f_X11_rests
  exact find0 h0.1 ⟨fun _ => h, fun _ e => nomatch e⟩
theorem x_returns {v1 : Int32} {v0 : Nat} {Z : jZ} {I : jI} {L : jL} {Q : Int32 → jI → jL → Prop} (h0 : XN Z I v0) (h : Q (-1) I L) : f_X11_returns v0 v1 Z I L Q := by
  unfold f_X11_returns
  exact find0 h0.1 ⟨fun _ => h, fun _ e => nomatch e⟩
theorem x_climb {v1 : Int32} {v0 : Nat} {Z : jZ} {I : jI} {L : jL} {Q : Int32 → jZ → jI → jL → Prop} (h0 : XN Z I v0) (h : Q (-1) Z I L) : f_X11_climb v0 v1 Z I L Q := by
  unfold f_X11_climb
  exact find0 h0.1 ⟨fun _ => h, fun _ e => nomatch e⟩
theorem x_knees {v1 : Int32} {v0 : Nat} {Z : jZ} {I : jI} {L : jL} {Q : Int32 → jZ → jI → jL → Prop} (h0 : XN Z I v0) (h : Q (-1) Z I L) : f_X11_knees v0 v1 Z I L Q := by
  unfold f_X11_knees
  exact find0 h0.1 ⟨fun _ => h, fun _ e => nomatch e⟩
theorem x_trod {v1 v2 v3 : Int32} {v0 : Nat} {Z : jZ} {I : jI} {L : jL} {Q : Int32 → jZ → jI → jL → Prop} (h0 : XN Z I v0) (h : Q (-1) Z I L) : f_X11_trod v0 v1 v2 v3 Z I L Q := by
  unfold f_X11_trod
  exact find0 h0.1 ⟨fun _ => h, fun _ e => nomatch e⟩
theorem x_next {v1 v2 : Int32} {v0 : Nat} {Z : jZ} {I : jI} {L : jL} {Q : Int32 → jZ → jI → jL → Prop} (h0 : XN Z I v0) (h : Q (-1) Z I L) : f_X11_next v0 v1 v2 Z I L Q := by
  unfold f_X11_next
  exact find0 h0.1 ⟨fun _ => h, fun _ e => nomatch e⟩
theorem x_bears {v1 : Int32} {v0 : Nat} {Z : jZ} {I : jI} {L : jL} {Q : Int32 → jZ → jI → jL → Prop} (h0 : XN Z I v0) (h : Q (-1) Z I L) : f_X11_bears v0 v1 Z I L Q := by
  unfold f_X11_bears
  exact find0 h0.1 ⟨fun _ => h, fun _ e => nomatch e⟩
theorem x_breaks {v1 : Int32} {v0 : Nat} {Z : jZ} {I : jI} {L : jL} {Q : Int32 → jZ → jI → jL → Prop} (h0 : XN Z I v0) (h : Q (-1) Z I L) : f_X11_breaks v0 v1 Z I L Q := by
  unfold f_X11_breaks
  exact find0 h0.1 ⟨fun _ => h, fun _ e => nomatch e⟩
theorem x_would {v1 v2 : Int32} {v0 : Nat} {Z : jZ} {I : jI} {L : jL} {Q : Int32 → jZ → jI → jL → Prop} (h0 : XN Z I v0) (h : Q (-1) Z I L) : f_X11_would v0 v1 v2 Z I L Q := by
  unfold f_X11_would
  intro b eb
  exact has0 (h0.2.1 b eb) ⟨fun _ => h, fun e => absurd rfl e⟩
theorem x_parts {v1 v2 : Int32} {v0 : Nat} {Z : jZ} {I : jI} {L : jL} {Q : Int32 → jI → jL → Prop} (h0 : XN Z I v0) (h : Q (-1) I L) : f_X11_parts v0 v1 v2 Z I L Q := by
  unfold f_X11_parts
  intro b eb
  exact has0 (h0.2.1 b eb) ⟨fun _ => h, fun e => absurd rfl e⟩
theorem x_sells {v1 v2 v3 v4 v5 : Int32} {v0 : Nat} {Z : jZ} {I : jI} {L : jL} {Q : Int32 → jI → jL → Prop} (h0 : XN Z I v0) (h : Q (-1) I L) : f_X11_sells v0 v1 v2 v3 v4 v5 Z I L Q := by
  unfold f_X11_sells
  intro b eb
  exact has0 (h0.2.1 b eb) ⟨fun _ => h, fun e => absurd rfl e⟩
theorem m_set {v1 v2 v3 : Int32} {v0 : Nat} {Z : jZ} {I : jI} {L : jL} {Q : Int32 → jI → jL → Prop} (h0 : MN I v0) (h : ∀ I, Q (-1) I L) : f_X12_set v0 v1 v2 v3 Z I L Q := by
  unfold f_X12_set
  intro I1 e1
  have h0 : MN I1 v0 := by rw [e1]; exact h0.put
  exact isStep0 h0 ⟨fun _ => h _ , fun e => absurd rfl e⟩
theorem m_vow {v1 v2 : Int32} {v0 : Nat} {Z : jZ} {I : jI} {L : jL} {Q : Int32 → jI → jL → Prop} (h0 : MN I v0) (h : ∀ I, Q (-1) I L) : f_X12_vow v0 v1 v2 Z I L Q := by
  unfold f_X12_vow
  intro I1 e1
  have h0 : MN I1 v0 := by rw [e1]; exact h0.put
  exact isOne0 h0 ⟨fun _ => h _ , fun e => absurd rfl e⟩
theorem m_costs {v1 v2 : Int32} {v0 : Nat} {Z : jZ} {I : jI} {L : jL} {Q : Int32 → jZ → jI → jL → Prop} (h0 : MN I v0) (h : ∀ I, Q (-1) Z I L) : f_X12_costs v0 v1 v2 Z I L Q := by
  unfold f_X12_costs
  intro I1 e1
  have h0 : MN I1 v0 := by rw [e1]; exact h0.put
  exact isOne0 h0 ⟨fun _ => h _ , fun e => absurd rfl e⟩
theorem m_tread {v1 v2 : Int32} {v0 : Nat} {Z : jZ} {I : jI} {L : jL} {Q : Int32 → jZ → jI → jL → Prop} (h0 : MN I v0) (h : ∀ I, Q (-1) Z I L) : f_X12_tread v0 v1 v2 Z I L Q := by
  unfold f_X12_tread
  intro I1 e1
  have h0 : MN I1 v0 := by rw [e1]; exact h0.put
  exact isOne0 h0 ⟨fun _ => h _ , fun e => absurd rfl e⟩
theorem m_rests {v1 v2 : Int32} {v0 : Nat} {Z : jZ} {I : jI} {L : jL} {Q : Int32 → jZ → jI → jL → Prop} (h0 : MN I v0) (h : ∀ I, Q (-1) Z I L) : f_X12_rests v0 v1 v2 Z I L Q := by
  unfold f_X12_rests
  intro I1 e1
  have h0 : MN I1 v0 := by rw [e1]; exact h0.put
  exact isOne0 h0 ⟨fun _ => h _ , fun e => absurd rfl e⟩
theorem m_returns {v1 : Int32} {v0 : Nat} {Z : jZ} {I : jI} {L : jL} {Q : Int32 → jI → jL → Prop} (h0 : MN I v0) (h : ∀ I, Q (-1) I L) : f_X12_returns v0 v1 Z I L Q := by
  unfold f_X12_returns
  intro I1 e1
  have h0 : MN I1 v0 := by rw [e1]; exact h0.put
  exact isOne0 h0 ⟨fun e => absurd rfl e, fun _ => h _⟩
theorem m_climb {v1 : Int32} {v0 : Nat} {Z : jZ} {I : jI} {L : jL} {Q : Int32 → jZ → jI → jL → Prop} (h0 : MN I v0) (h : ∀ I, Q (-1) Z I L) : f_X12_climb v0 v1 Z I L Q := by
  unfold f_X12_climb
  intro I1 e1
  have h0 : MN I1 v0 := by rw [e1]; exact h0.put
  exact isOne0 h0 ⟨fun _ => h _ , fun e => absurd rfl e⟩
theorem m_knees {v1 : Int32} {v0 : Nat} {Z : jZ} {I : jI} {L : jL} {Q : Int32 → jZ → jI → jL → Prop} (h0 : MN I v0) (h : ∀ I, Q (-1) Z I L) : f_X12_knees v0 v1 Z I L Q := by
  unfold f_X12_knees
  intro I1 e1
  have h0 : MN I1 v0 := by rw [e1]; exact h0.put
  exact isOne0 h0 ⟨fun _ => h _ , fun e => absurd rfl e⟩
theorem m_trod {v1 v2 v3 : Int32} {v0 : Nat} {Z : jZ} {I : jI} {L : jL} {Q : Int32 → jZ → jI → jL → Prop} (h0 : MN I v0) (h : ∀ I, Q (-1) Z I L) : f_X12_trod v0 v1 v2 v3 Z I L Q := by
  unfold f_X12_trod
  intro I1 e1
  have h0 : MN I1 v0 := by rw [e1]; exact h0.put
  exact isOne0 h0 ⟨fun _ => h _ , fun e => absurd rfl e⟩
theorem m_next {v1 v2 : Int32} {v0 : Nat} {Z : jZ} {I : jI} {L : jL} {Q : Int32 → jZ → jI → jL → Prop} (h0 : MN I v0) (h : ∀ I, Q (-1) Z I L) : f_X12_next v0 v1 v2 Z I L Q := by
  unfold f_X12_next
  intro I1 e1
  have h0 : MN I1 v0 := by rw [e1]; exact h0.put
  exact isOne0 h0 ⟨fun _ => h _ , fun e => absurd rfl e⟩
theorem m_bears {v1 : Int32} {v0 : Nat} {Z : jZ} {I : jI} {L : jL} {Q : Int32 → jZ → jI → jL → Prop} (h0 : MN I v0) (h : ∀ I, Q (-1) Z I L) : f_X12_bears v0 v1 Z I L Q := by
  unfold f_X12_bears
  intro I1 e1
  have h0 : MN I1 v0 := by rw [e1]; exact h0.put
  exact isOne0 h0 ⟨fun _ => h _ , fun e => absurd rfl e⟩
theorem m_breaks {v1 : Int32} {v0 : Nat} {Z : jZ} {I : jI} {L : jL} {Q : Int32 → jZ → jI → jL → Prop} (h0 : MN I v0) (h : ∀ I, Q (-1) Z I L) : f_X12_breaks v0 v1 Z I L Q := by
  unfold f_X12_breaks
  intro I1 e1
  have h0 : MN I1 v0 := by rw [e1]; exact h0.put
  exact isOne0 h0 ⟨fun _ => h _ , fun e => absurd rfl e⟩
theorem m_whole {v1 : Int32} {v0 : Nat} {Z : jZ} {I : jI} {L : jL} {Q : Int32 → jZ → jI → jL → Prop} (h0 : MN I v0) (h : ∀ I, Q (-1) Z I L) : f_X12_whole v0 v1 Z I L Q := by
  unfold f_X12_whole
  intro I1 e1
  have h0 : MN I1 v0 := by rw [e1]; exact h0.put
  exact isStep0 h0 ⟨fun e => absurd rfl e, fun _ => h _⟩
theorem m_mends {v1 : Int32} {v0 : Nat} {Z : jZ} {I : jI} {L : jL} {Q : Int32 → jI → jL → Prop} (h0 : MN I v0) (h : ∀ I, Q (-1) I L) : f_X12_mends v0 v1 Z I L Q := by
  unfold f_X12_mends
  intro I1 e1
  have h0 : MN I1 v0 := by rw [e1]; exact h0.put
  exact isStep0 h0 ⟨fun e => absurd rfl e, fun _ => h _⟩
theorem m_shut {v1 : Int32} {v0 : Nat} {Z : jZ} {I : jI} {L : jL} {Q : Int32 → jZ → jI → jL → Prop} (h0 : MN I v0) (h : ∀ I, Q (-1) Z I L) : f_X12_shut v0 v1 Z I L Q := by
  unfold f_X12_shut
  intro I1 e1
  have h0 : MN I1 v0 := by rw [e1]; exact h0.put
  exact isStep0 h0 ⟨fun e => absurd rfl e, fun _ => h _⟩
theorem m_toll {v1 : Int32} {v0 : Nat} {Z : jZ} {I : jI} {L : jL} {Q : Int32 → jZ → jI → jL → Prop} (h0 : MN I v0) (h : ∀ I, Q (-1) Z I L) : f_X12_toll v0 v1 Z I L Q := by
  unfold f_X12_toll
  intro I1 e1
  have h0 : MN I1 v0 := by rw [e1]; exact h0.put
  exact isStep0 h0 ⟨fun e => absurd rfl e, fun _ => h _⟩
theorem m_would {v1 v2 : Int32} {v0 : Nat} {Z : jZ} {I : jI} {L : jL} {Q : Int32 → jZ → jI → jL → Prop} (h0 : MN I v0) (h : ∀ I, Q (-1) Z I L) : f_X12_would v0 v1 v2 Z I L Q := by
  unfold f_X12_would
  intro I1 e1
  have h0 : MN I1 v0 := by rw [e1]; exact h0.put
  exact isStep0 h0 ⟨fun _ => h _ , fun e => absurd rfl e⟩
theorem m_best {v1 : Int32} {v0 : Nat} {Z : jZ} {I : jI} {L : jL} {Q : Int32 → jZ → jI → jL → Prop} (h0 : MN I v0) (h : ∀ I, Q (-1) Z I L) : f_X12_best v0 v1 Z I L Q := by
  unfold f_X12_best
  intro I1 e1
  have h0 : MN I1 v0 := by rw [e1]; exact h0.put
  exact isStep0 h0 ⟨fun e => absurd rfl e, fun _ => h _⟩
theorem m_parts {v1 v2 : Int32} {v0 : Nat} {Z : jZ} {I : jI} {L : jL} {Q : Int32 → jI → jL → Prop} (h0 : MN I v0) (h : ∀ I, Q (-1) I L) : f_X12_parts v0 v1 v2 Z I L Q := by
  unfold f_X12_parts
  intro I1 e1
  have h0 : MN I1 v0 := by rw [e1]; exact h0.put
  exact isStep0 h0 ⟨fun _ => h _ , fun e => absurd rfl e⟩
theorem m_sells {v1 v2 v3 v4 v5 : Int32} {v0 : Nat} {Z : jZ} {I : jI} {L : jL} {Q : Int32 → jI → jL → Prop} (h0 : MN I v0) (h : ∀ I, Q (-1) I L) : f_X12_sells v0 v1 v2 v3 v4 v5 Z I L Q := by
  unfold f_X12_sells
  intro I1 e1
  have h0 : MN I1 v0 := by rw [e1]; exact h0.put
  exact isStep0 h0 ⟨fun _ => h _ , fun e => absurd rfl e⟩
theorem x_mends {v1 : Int32} {v0 : Nat} {Z : jZ} {I : jI} {L : jL} {Q : Int32 → jI → jL → Prop} (h0 : XN Z I v0) (h : Q (-1) I L) : f_X11_mends v0 v1 Z I L Q := by
  unfold f_X11_mends
  intro b eb
  exact has0 (h0.2.1 b eb) ⟨fun e => absurd rfl e, fun _ => h⟩
theorem x_shut {v1 : Int32} {v0 : Nat} {Z : jZ} {I : jI} {L : jL} {Q : Int32 → jZ → jI → jL → Prop} (h0 : XN Z I v0) (h : Q (-1) Z I L) : f_X11_shut v0 v1 Z I L Q := by
  unfold f_X11_shut
  intro b eb
  exact has0 (h0.2.1 b eb) ⟨fun e => absurd rfl e, fun _ => h⟩
theorem x_toll {v1 : Int32} {v0 : Nat} {Z : jZ} {I : jI} {L : jL} {Q : Int32 → jZ → jI → jL → Prop} (h0 : XN Z I v0) (h : Q (-1) Z I L) : f_X11_toll v0 v1 Z I L Q := by
  unfold f_X11_toll
  intro b eb
  exact has0 (h0.2.1 b eb) ⟨fun e => absurd rfl e, fun _ => h⟩
theorem x_whole {v1 : Int32} {v0 : Nat} {Z : jZ} {I : jI} {L : jL} {Q : Int32 → jZ → jI → jL → Prop} (h0 : XN Z I v0) (h : Q (-1) Z I L) : f_X11_whole v0 v1 Z I L Q := by
  unfold f_X11_whole
  intro b eb
  exact has0 (h0.2.1 b eb) ⟨fun e => absurd rfl e, fun _ => h⟩
theorem x_best {v1 : Int32} {v0 : Nat} {Z : jZ} {I : jI} {L : jL} {Q : Int32 → jZ → jI → jL → Prop} (h0 : XN Z I v0) (h : Q (-1) Z I L) : f_X11_best v0 v1 Z I L Q := by
  unfold f_X11_best
  intro b eb
  exact has0 (h0.2.1 b eb) ⟨fun e => absurd rfl e, fun _ => h⟩
theorem x_lamps {v1 : Int32} {v0 : Nat} {Z : jZ} {I : jI} {L : jL} {Q : Int32 → jI → jL → Prop} (h0 : XN Z I v0) (h : Q (-1) I L) : f_X11_lamps v0 v1 Z I L Q := by
  unfold f_X11_lamps
  exact ⟨fun _ => h, fun _ => ⟨fun _ => h, fun _ => fun b eb => ⟨fun e => absurd (h0.2.1 b eb) e, fun _ => h⟩⟩⟩
theorem x_market {v1 : Int32} {v0 : Nat} {Z : jZ} {I : jI} {L : jL} {Q : Int32 → jZ → jI → jL → Prop} (h0 : XN Z I v0) (h : Q (-1) Z I L) : f_X11_market v0 v1 Z I L Q := by
  unfold f_X11_market
  exact ⟨fun _ => h, fun _ => ⟨fun _ => h, fun _ => fun b eb => ⟨fun e => absurd (h0.2.1 b eb) e, fun _ => h⟩⟩⟩
theorem x_feast {v1 : Int32} {v0 : Nat} {Z : jZ} {I : jI} {L : jL} {Q : Int32 → jZ → jI → jL → Prop} (h0 : XN Z I v0) (h : Q (-1) Z I L) : f_X11_feast v0 v1 Z I L Q := by
  unfold f_X11_feast
  exact ⟨fun _ => h, fun _ => ⟨fun _ => h, fun _ => fun b eb => ⟨fun e => absurd (h0.2.1 b eb) e, fun _ => h⟩⟩⟩
theorem x_rail {v1 : Int32} {v0 : Nat} {Z : jZ} {I : jI} {L : jL} {Q : Int32 → jI → jL → Prop} (h0 : XN Z I v0) (h : Q (-1) I L) : f_X11_rail v0 v1 Z I L Q := by
  unfold f_X11_rail
  exact ⟨fun _ => h, fun _ => ⟨fun _ => h, fun _ => fun b eb => ⟨fun e => absurd (h0.2.1 b eb) e, fun _ => h⟩⟩⟩
theorem x_rules {v1 v2 : Int32} {v0 : Nat} {Z : jZ} {I : jI} {L : jL} {Q : Int32 → jI → jL → Prop} (h0 : XN Z I v0) (h : Q (-1) I L) : f_X11_rules v0 v1 v2 Z I L Q := by
  unfold f_X11_rules
  exact ⟨fun _ => h, fun _ => ⟨fun _ => h, fun _ => fun b eb => ⟨fun _ => h, fun e => absurd (h0.2.1 b eb) e⟩⟩⟩
theorem x_jam {v0 : Nat} {Z : jZ} {I : jI} {L : jL} {Q : Int32 → jZ → jI → jL → Prop} (h0 : XN Z I v0) (h : Q (-2) Z I L) : f_X11_jam v0 Z I L Q := by
  unfold f_X11_jam
  exact fun b eb => ⟨fun e => absurd (h0.2.1 b eb) e, fun _ => h⟩
theorem x_who {v1 v2 : Int32} {v0 : Nat} {Z : jZ} {I : jI} {L : jL} {Q : Int32 → jZ → jI → jL → Prop} (h0 : XN Z I v0) (h : Q (-1) Z I L) : f_X11_who v0 v1 v2 Z I L Q := by
  unfold f_X11_who
  exact ⟨fun _ => h, fun _ => ⟨fun _ => h, fun _ => fun b eb => has0 (h0.2.1 b eb) ⟨fun e => absurd rfl e, fun _ => h⟩⟩⟩
theorem x_ways {v1 v2 : Int32} {v0 : Nat} {Z : jZ} {I : jI} {L : jL} {Q : Int64 → jZ → jI → jL → Prop} (h0 : XN Z I v0) (h : Q (-1) Z I L) : f_X11_ways v0 v1 v2 Z I L Q := by
  unfold f_X11_ways
  exact find0 h0.1 ⟨fun _ => h, fun _ e => nomatch e⟩
theorem x_step {v1 v2 : Int32} {v0 : Nat} {Z : jZ} {I : jI} {L : jL} {Q : Int32 → jI → jL → Prop} {QX : jI → jL → Prop} (h0 : XN Z I v0) (h : QX I L) : f_X11_step v0 v1 v2 Z I L Q QX := by
  unfold f_X11_step
  exact fun b eb => has0 (h0.2.1 b eb) ⟨fun e => absurd rfl e, fun _ => h⟩
theorem x_of {v1 v2 : Int32} {v0 : Nat} {Z : jZ} {I : jI} {L : jL} {Q : Int32 → jI → jL → Prop} {QX : jI → jL → Prop} (h0 : XN Z I v0) (h : QX I L) : f_X11_of v0 v1 v2 Z I L Q QX := by
  unfold f_X11_of
  exact find0 h0.1 ⟨fun _ => h, fun _ e => nomatch e⟩
theorem x_row {v1 : Int32} {v0 : Nat} {Z : jZ} {I : jI} {L : jL} {Q : Int64 → jI → jL → Prop} {QX : jI → jL → Prop} (h0 : XN Z I v0) (h : QX I L) : f_X11_row v0 v1 Z I L Q QX := by
  unfold f_X11_row
  refine ⟨fun _ => h, fun c => ⟨fun _ => h, fun e => ?_⟩⟩
  rw [h0.2.2 16] at e
  exact absurd (Int32.not_lt.mp c) e
theorem m_lamps {v1 : Int32} {v0 : Nat} {Z : jZ} {I : jI} {L : jL} {Q : Int32 → jI → jL → Prop} (h0 : MN I v0) (h : ∀ I, Q (-1) I L) : f_X12_lamps v0 v1 Z I L Q := by
  unfold f_X12_lamps
  intro I1 e1
  have h0 : MN I1 v0 := by rw [e1]; exact h0.put
  exact ⟨fun _ => h _, fun e => absurd (h0 0 (by decide)) e⟩
theorem m_market {v1 : Int32} {v0 : Nat} {Z : jZ} {I : jI} {L : jL} {Q : Int32 → jZ → jI → jL → Prop} (h0 : MN I v0) (h : ∀ I, Q (-1) Z I L) : f_X12_market v0 v1 Z I L Q := by
  unfold f_X12_market
  intro I1 e1
  have h0 : MN I1 v0 := by rw [e1]; exact h0.put
  exact ⟨fun _ => h _, fun e => absurd (h0 0 (by decide)) e⟩
theorem m_feast {v1 : Int32} {v0 : Nat} {Z : jZ} {I : jI} {L : jL} {Q : Int32 → jZ → jI → jL → Prop} (h0 : MN I v0) (h : ∀ I, Q (-1) Z I L) : f_X12_feast v0 v1 Z I L Q := by
  unfold f_X12_feast
  intro I1 e1
  have h0 : MN I1 v0 := by rw [e1]; exact h0.put
  exact ⟨fun _ => h _, fun e => absurd (h0 0 (by decide)) e⟩
theorem m_rail {v1 : Int32} {v0 : Nat} {Z : jZ} {I : jI} {L : jL} {Q : Int32 → jI → jL → Prop} (h0 : MN I v0) (h : ∀ I, Q (-1) I L) : f_X12_rail v0 v1 Z I L Q := by
  unfold f_X12_rail
  intro I1 e1
  have h0 : MN I1 v0 := by rw [e1]; exact h0.put
  exact ⟨fun _ => h _, fun e => absurd (h0 0 (by decide)) e⟩
theorem m_rules {v1 v2 : Int32} {v0 : Nat} {Z : jZ} {I : jI} {L : jL} {Q : Int32 → jI → jL → Prop} (h0 : MN I v0) (h : ∀ I, Q (-1) I L) : f_X12_rules v0 v1 v2 Z I L Q := by
  unfold f_X12_rules
  intro I1 e1
  have h0 : MN I1 v0 := by rw [e1]; exact h0.put
  exact ⟨fun _ => h _, fun e => absurd (h0 0 (by decide)) e⟩
theorem m_jam {v0 : Nat} {Z : jZ} {I : jI} {L : jL} {Q : Int32 → jZ → jI → jL → Prop} (h0 : MN I v0) (h : ∀ I, Q (-2) Z I L) : f_X12_jam v0 Z I L Q := by
  unfold f_X12_jam
  intro I1 e1
  have h0 : MN I1 v0 := by rw [e1]; exact h0.put
  exact ⟨fun e => absurd (h0 0 (by decide)) e, fun _ => h _⟩
theorem m_undo {v0 : Nat} {Z : jZ} {I : jI} {L : jL} {Q : Int32 → jI → jL → Prop} (h0 : MN I v0) (h : ∀ I, Q (-1) I L) : f_X12_undo v0 Z I L Q := by
  unfold f_X12_undo
  intro I1 e1
  have h0 : MN I1 v0 := by rw [e1]; exact h0.put
  exact ⟨fun e => absurd (h0 52 (by decide)) e, fun _ => h _⟩
theorem m_who {v1 v2 : Int32} {v0 : Nat} {Z : jZ} {I : jI} {L : jL} {Q : Int32 → jZ → jI → jL → Prop} (h0 : MN I v0) (h : ∀ I, Q (-1) Z I L) : f_X12_who v0 v1 v2 Z I L Q := by
  unfold f_X12_who
  intro I1 e1
  have h0 : MN I1 v0 := by rw [e1]; exact h0.put
  exact isCostA (fun r => ⟨fun _ => h _, fun _ => isStep0 h0 ⟨fun e => absurd rfl e, fun _ => h _⟩⟩)
theorem m_ways {v1 v2 : Int32} {v0 : Nat} {Z : jZ} {I : jI} {L : jL} {Q : Int64 → jZ → jI → jL → Prop} (h0 : MN I v0) (h : ∀ I, Q (-1) Z I L) : f_X12_ways v0 v1 v2 Z I L Q := by
  unfold f_X12_ways
  intro I1 e1
  have h0 : MN I1 v0 := by rw [e1]; exact h0.put
  exact isOne0 h0 ⟨fun _ => h _, fun e => absurd rfl e⟩
theorem m_step {v1 v2 : Int32} {v0 : Nat} {Z : jZ} {I : jI} {L : jL} {Q : Int32 → jI → jL → Prop} (h0 : MN I v0) (h : ∀ r I, I v0 22 = 1 → Q r I L) : f_X12_step v0 v1 v2 Z I L Q := by
  unfold f_X12_step
  intro I1 e1
  have h0 : MN I1 v0 := by rw [e1]; exact h0.put
  exact isStep0 h0 ⟨fun _ => lost1 (fun I e => h _ _ e), fun e => absurd rfl e⟩
theorem m_of {v1 v2 : Int32} {v0 : Nat} {Z : jZ} {I : jI} {L : jL} {Q : Int32 → jI → jL → Prop} (h0 : MN I v0) (h : ∀ r I, I v0 22 = 1 → Q r I L) : f_X12_of v0 v1 v2 Z I L Q := by
  unfold f_X12_of
  intro I1 e1
  have h0 : MN I1 v0 := by rw [e1]; exact h0.put
  exact isOne0 h0 ⟨fun _ => lost1 (fun I e => h _ _ e), fun e => absurd rfl e⟩
theorem m_row {v1 : Int32} {v0 : Nat} {Z : jZ} {I : jI} {L : jL} {Q : Int64 → jI → jL → Prop} (h0 : MN I v0) (h : ∀ r I, I v0 22 = 1 → Q r I L) : f_X12_row v0 v1 Z I L Q := by
  unfold f_X12_row
  intro I1 e1
  have h0 : MN I1 v0 := by rw [e1]; exact h0.put
  exact in0 (h0 21 (by decide)) ⟨fun _ => lost1 (fun I e => h _ _ e), fun e => absurd rfl e⟩
