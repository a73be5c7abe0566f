/-! ===== the feast: who goes on ===== -/
/-- where one stands -/
def PLC (O G : Nat → Int32) (p : Nat) : Int := if (G p).toInt = 0 then -1 else (O (24 * p + ((G p).toInt - 1).toNat)).toInt
/-- each one's row rises, and ends on the last step -/
def PTH (st : Int) (O M : Nat → Int32) (n : Int) : Prop := ∀ p : Nat, (p : Int) < n → 0 < (M p).toInt → (O (24 * p + ((M p).toInt - 1).toNat)).toInt = st - 1 ∧ ∀ k : Nat, (k : Int) + 1 < (M p).toInt → (O (24 * p + k)).toInt < (O (24 * p + (k + 1))).toInt
/-- how many aren't up yet -/
def CNT : Nat → (Nat → Int32) → (Nat → Int32) → Int
  | 0, _, _ => 0
  | n + 1, G, M => CNT n G M + (if (G n).toInt < (M n).toInt then 1 else 0)
def SGo (G : Nat → Int32) : Int := (G 0).toInt + (G 1).toInt + (G 2).toInt + (G 3).toInt + (G 4).toInt + (G 5).toInt
theorem CNT_congr {G M G' M' : Nat → Int32} : ∀ {n : Nat}, (∀ q, q < n → G' q = G q) → (∀ q, q < n → M' q = M q) → CNT n G' M' = CNT n G M := by
  intro n
  induction n with
  | zero => intro _ _; rfl
  | succ n ih =>
    intro h1 h2
    show CNT n G' M' + _ = CNT n G M + _
    rw [ih (fun q hq => h1 q (by omega)) (fun q hq => h2 q (by omega)), h1 n (by omega), h2 n (by omega)]
theorem CNT_pos {G M : Nat → Int32} : ∀ {n : Nat}, 0 < CNT n G M → ∃ q, q < n ∧ (G q).toInt < (M q).toInt := by
  intro n
  induction n with
  | zero => intro h; exact absurd h (by show ¬ (0 : Int) < 0; omega)
  | succ n ih =>
    intro h
    by_cases hn : (G n).toInt < (M n).toInt
    · exact ⟨n, by omega, hn⟩
    · have h1 : 0 < CNT n G M + (if (G n).toInt < (M n).toInt then 1 else 0) := h
      rw [if_neg hn] at h1
      obtain ⟨q, h2, h3⟩ := ih (by omega)
      exact ⟨q, by omega, h3⟩
theorem CNT_rng {G M : Nat → Int32} : ∀ {n : Nat}, 0 ≤ CNT n G M ∧ CNT n G M ≤ (n : Int) := by
  intro n
  induction n with
  | zero => exact ⟨Int.le_refl _, Int.le_refl _⟩
  | succ n ih =>
    show 0 ≤ CNT n G M + (if (G n).toInt < (M n).toInt then 1 else 0) ∧ CNT n G M + (if (G n).toInt < (M n).toInt then 1 else 0) ≤ ((n + 1 : Nat) : Int)
    by_cases hn : (G n).toInt < (M n).toInt
    · rw [if_pos hn]; omega
    · rw [if_neg hn]; omega
theorem CNT_up {G G' M : Nat → Int32} {p : Nat} (ho : ∀ q, q ≠ p → G' q = G q) (hl : (G p).toInt < (M p).toInt) (hv : (G' p).toInt = (G p).toInt + 1) : ∀ {n : Nat}, p < n → CNT n G' M = CNT n G M - (if (G' p).toInt = (M p).toInt then 1 else 0) := by
  intro n
  induction n with
  | zero => intro h; omega
  | succ n ih =>
    intro h
    show CNT n G' M + (if (G' n).toInt < (M n).toInt then 1 else 0) = CNT n G M + (if (G n).toInt < (M n).toInt then 1 else 0) - _
    by_cases hp : p = n
    · subst hp
      rw [CNT_congr (G := G) (M := M) (G' := G') (M' := M) (fun q hq => ho q (by omega)) (fun _ _ => rfl), if_pos hl]
      by_cases e : (G' p).toInt = (M p).toInt
      · rw [if_pos e, if_neg (by omega)]; omega
      · rw [if_neg e, if_pos (by omega)]; omega
    · rw [ih (by omega), ho n (fun q => hp q.symm)]
      omega
theorem SGo_up {G G' : Nat → Int32} {p : Nat} (hp : p < 6) (ho : ∀ q, q ≠ p → G' q = G q) (hv : (G' p).toInt = (G p).toInt + 1) : SGo G' = SGo G + 1 := by
  unfold SGo
  rcases (show p = 0 ∨ p = 1 ∨ p = 2 ∨ p = 3 ∨ p = 4 ∨ p = 5 by omega) with rfl | rfl | rfl | rfl | rfl | rfl
  · rw [ho 1 (by decide), ho 2 (by decide), ho 3 (by decide), ho 4 (by decide), ho 5 (by decide)]; omega
  · rw [ho 0 (by decide), ho 2 (by decide), ho 3 (by decide), ho 4 (by decide), ho 5 (by decide)]; omega
  · rw [ho 0 (by decide), ho 1 (by decide), ho 3 (by decide), ho 4 (by decide), ho 5 (by decide)]; omega
  · rw [ho 0 (by decide), ho 1 (by decide), ho 2 (by decide), ho 4 (by decide), ho 5 (by decide)]; omega
  · rw [ho 0 (by decide), ho 1 (by decide), ho 2 (by decide), ho 3 (by decide), ho 5 (by decide)]; omega
  · rw [ho 0 (by decide), ho 1 (by decide), ho 2 (by decide), ho 3 (by decide), ho 4 (by decide)]; omega
theorem SGo_le {G : Nat → Int32} (h : ∀ q, 0 ≤ (G q).toInt ∧ (G q).toInt ≤ 24) : SGo G ≤ 144 := by
  have := h 0; have := h 1; have := h 2; have := h 3; have := h 4; have := h 5
  unfold SGo; omega
theorem PTH_le {st n : Int} {O M : Nat → Int32} (h : PTH st O M n) {p : Nat} (hp : (p : Int) < n) : ∀ (d k : Nat), (k : Int) + 1 + (d : Int) = (M p).toInt → (O (24 * p + k)).toInt ≤ st - 1 := by
  intro d
  induction d with
  | zero =>
    intro k hk
    have h1 := (h p hp (by omega)).1
    rw [show ((M p).toInt - 1).toNat = k by omega] at h1
    omega
  | succ d ih =>
    intro k hk
    have h1 := (h p hp (by omega)).2 k (by omega)
    have h2 := ih (k + 1) (by omega)
    omega
/-- what holds all along -/
def BSt (st n : Int) (O M G : Nat → Int32) (lf : Int) : Prop := lf = CNT n.toNat G M ∧ PTH st O M n ∧ ∀ p : Nat, (p : Int) < n → (G p).toInt ≤ (M p).toInt
/-- those that aren't worked off yet can go on -/
def FSt (n : Int) (M G P : Nat → Int32) (s q : Int) : Prop := ∀ p : Nat, (p : Int) < n → -1 ≤ (P p).toInt → ((P p).toInt < s ∨ ((P p).toInt = s ∧ q ≤ (p : Int))) → (G p).toInt < (M p).toInt
/-- places at the minute's begin -/
def PTn (n : Int) (O M G P : Nat → Int32) : Prop := ∀ p : Nat, (p : Int) < n → (P p).toInt = if (G p).toInt < (M p).toInt then PLC O G p else -2
/-- nobody has moved yet -/
def NPr (n : Int) (O M G P : Nat → Int32) (s q lf : Int) : Prop := PTn n O M G P ∧ (∀ p : Nat, (p : Int) < n → (P p).toInt ≤ s ∧ ((p : Int) < q → (P p).toInt < s)) ∧ 0 < lf
def MIn (N n : Int) (O M G P : Nat → Int32) (s q lf : Int) : Prop := FSt n M G P s q ∧ (144 - SGo G < N ∨ NPr n O M G P s q lf)
theorem PLC_rng {st n : Int} {O M G : Nat → Int32} (h : PTH st O M n) (hst : 1 ≤ st) {p : Nat} (hp : (p : Int) < n) (hO : ∀ q, 0 ≤ (O q).toInt) (hG : 0 ≤ (G p).toInt) (hl : (G p).toInt ≤ (M p).toInt) : -1 ≤ PLC O G p ∧ PLC O G p ≤ st - 1 := by
  unfold PLC
  by_cases h0 : (G p).toInt = 0
  · rw [if_pos h0]; omega
  · rw [if_neg h0]
    have h1 := PTH_le h hp ((M p).toInt - (G p).toInt).toNat ((G p).toInt - 1).toNat (by omega)
    have h2 := hO (24 * p + ((G p).toInt - 1).toNat)
    omega
theorem MIn_start {N st n lf : Int} {O M G P : Nat → Int32} (hb : BSt st n O M G lf) (hst : 1 ≤ st) (hO : ∀ q, 0 ≤ (O q).toInt) (hG : ∀ q, 0 ≤ (G q).toInt) (hP : PTn n O M G P) (hl : 0 < lf) : MIn N n O M G P (st - 1) 0 lf := by
  refine ⟨fun p hp h1 _ => ?_, Or.inr ⟨hP, fun p hp => ?_, hl⟩⟩
  · have h2 := hP p hp
    by_cases h3 : (G p).toInt < (M p).toInt
    · exact h3
    · rw [if_neg h3] at h2; omega
  · have h2 := hP p hp
    by_cases h3 : (G p).toInt < (M p).toInt
    · rw [if_pos h3] at h2
      have h4 := PLC_rng hb.2.1 hst hp hO (hG p) (hb.2.2 p hp)
      omega
    · rw [if_neg h3] at h2; omega
theorem MIn_skip {N n s q q' lf : Int} {O M G P : Nat → Int32} {p : Nat} (h : MIn N n O M G P s q lf) (hq : (p : Int) = q) (hq' : q' = q + 1) (hn : ¬ (P p).toInt = s) : MIn N n O M G P s q' lf := by
  refine ⟨fun p' hp h1 h2 => h.1 p' hp h1 (by omega), ?_⟩
  rcases h.2 with h2 | ⟨h2, h3, h4⟩
  · exact Or.inl h2
  · refine Or.inr ⟨h2, fun p' hp => ?_, h4⟩
    have h5 := h3 p' hp
    refine ⟨h5.1, fun h6 => ?_⟩
    by_cases e : p' = p
    · subst e; omega
    · exact h5.2 (by omega)
theorem MIn_wait {N n s q q' lf : Int} {O M G P : Nat → Int32} (h : MIn N n O M G P s q lf) (hq' : q' = q + 1) (hg : 144 - SGo G < N) : MIn N n O M G P s q' lf :=
  ⟨fun p' hp h1 h2 => h.1 p' hp h1 (by omega), Or.inl hg⟩
theorem MIn_move {N n s q q' lf lf' : Int} {O M G G' P : Nat → Int32} {p : Nat} (h : MIn N n O M G P s q lf) (hN : 144 - SGo G ≤ N) (hp : (p : Int) = q) (hp6 : p < 6) (hq' : q' = q + 1) (he : (P p).toInt = s) (ho : ∀ i, i ≠ p → G' i = G i) (hv : (G' p).toInt = (G p).toInt + 1) : MIn N n O M G' P s q' lf' := by
  refine ⟨fun p' hp' h1 h2 => ?_, Or.inl ?_⟩
  · by_cases e : p' = p
    · subst e; omega
    · rw [ho p' e]; exact h.1 p' hp' h1 (by omega)
  · have := SGo_up hp6 ho hv
    omega
theorem MIn_next {N n s s' q lf : Int} {O M G P : Nat → Int32} (h : MIn N n O M G P s q lf) (hq : n ≤ q) (hs : s' = s - 1) : MIn N n O M G P s' 0 lf := by
  refine ⟨fun p' hp h1 h2 => h.1 p' hp h1 (by omega), ?_⟩
  rcases h.2 with h2 | ⟨h2, h3, h4⟩
  · exact Or.inl h2
  · refine Or.inr ⟨h2, fun p' hp => ?_, h4⟩
    have h5 := (h3 p' hp).2 (by omega)
    exact ⟨by omega, fun h6 => by omega⟩
theorem MIn_end {N st n s lf : Int} {O M G P : Nat → Int32} (h : MIn N n O M G P s 0 lf) (hb : BSt st n O M G lf) (hst : 1 ≤ st) (hO : ∀ q, 0 ≤ (O q).toInt) (hG : ∀ q, 0 ≤ (G q).toInt) (hs : s < -1) : 144 - SGo G < N := by
  rcases h.2 with h2 | ⟨h2, h3, h4⟩
  · exact h2
  · rw [hb.1] at h4
    obtain ⟨p, h5, h6⟩ := CNT_pos h4
    have h7 := h2 p (by omega)
    rw [if_pos h6] at h7
    have h8 := PLC_rng hb.2.1 hst (p := p) (by omega) hO (hG p) (by omega)
    have h9 := h3 p (by omega)
    omega
/-- one that waits though its next step is free: others have moved -/
theorem MIn_free {N st n s q lf to : Int} {O M G P : Nat → Int32} {p : Nat} (h : MIn N n O M G P s q lf) (hb : BSt st n O M G lf) (hO : ∀ q, 0 ≤ (O q).toInt) (hp : (p : Int) < n) (he : (P p).toInt = s) (hs : -1 ≤ s) (hG : ∀ q, 0 ≤ (G q).toInt)
    (hto : to = (O (24 * p + (G p).toInt.toNat)).toInt) (hlt : to < st - 1) (hon : ∃ p' : Nat, (p' : Int) < n ∧ 0 < (M p').toInt ∧ PLC O G p' = to) : 144 - SGo G < N := by
  rcases h.2 with h2 | ⟨h2, h3, h4⟩
  · exact h2
  · exfalso
    obtain ⟨p', g1, g2, g3⟩ := hon
    have h5 := h2 p hp
    have h5' := h2 p' g1
    have h6 := hG p
    have h6' := hG p'
    have h7 : (G p).toInt < (M p).toInt := by
      by_cases h8 : (G p).toInt < (M p).toInt
      · exact h8
      · rw [if_neg h8] at h5; omega
    rw [if_pos h7] at h5
    have hgt : s < to := by
      unfold PLC at h5
      by_cases h0 : (G p).toInt = 0
      · rw [if_pos h0] at h5
        have := hO (24 * p + (G p).toInt.toNat)
        omega
      · rw [if_neg h0] at h5
        have h9 := (hb.2.1 p hp (by omega)).2 ((G p).toInt - 1).toNat (by omega)
        rw [show ((G p).toInt - 1).toNat + 1 = (G p).toInt.toNat by omega] at h9
        omega
    by_cases h8 : (G p').toInt < (M p').toInt
    · rw [if_pos h8] at h5'
      have := (h3 p' g1).1
      omega
    · have h9 := hb.2.2 p' g1
      have h10 := (hb.2.1 p' g1 g2).1
      unfold PLC at g3
      rw [if_neg (by omega), show (G p').toInt = (M p').toInt by omega] at g3
      omega
theorem BSt_move {st n lf lf' : Int} {O M G G' : Nat → Int32} {p : Nat} (hb : BSt st n O M G lf) (hp : (p : Int) < n) (ho : ∀ i, i ≠ p → G' i = G i) (hl : (G p).toInt < (M p).toInt) (hv : (G' p).toInt = (G p).toInt + 1) (hlf : ((G' p).toInt = (M p).toInt ∧ lf' = lf - 1) ∨ (¬ (G' p).toInt = (M p).toInt ∧ lf' = lf)) : BSt st n O M G' lf' := by
  refine ⟨?_, hb.2.1, fun p' hp' => ?_⟩
  · rw [CNT_up ho hl hv (n := n.toNat) (by omega), ← hb.1]
    rcases hlf with h | h
    · rw [if_pos h.1]; exact h.2
    · rw [if_neg h.1]; omega
  · by_cases e : p' = p
    · subst e; omega
    · rw [ho p' e]; exact hb.2.2 p' hp'
theorem PTn_step {O M G P P' : Nat → Int32} {q q' : Int} {p : Nat} (h : ∀ i : Nat, (i : Int) < q → (P i).toInt = if (G i).toInt < (M i).toInt then PLC O G i else -2) (hp : (p : Int) = q) (hq : q' = q + 1) (ho : ∀ i, i ≠ p → P' i = P i) (hv : ((M p).toInt ≤ (G p).toInt ∧ (P' p).toInt = -2) ∨ ((G p).toInt < (M p).toInt ∧ (P' p).toInt = PLC O G p)) : ∀ i : Nat, (i : Int) < q' → (P' i).toInt = if (G i).toInt < (M i).toInt then PLC O G i else -2 := by
  intro i hi
  by_cases e : i = p
  · subst e
    rcases hv with h1 | h1
    · rw [if_neg (by omega)]; exact h1.2
    · rw [if_pos h1.1]; exact h1.2
  · rw [ho i e]; exact h i (by omega)
/-- while the rows are laid: those before p are ready -/
def BS0 (st : Int) (O M G : Nat → Int32) (n lf : Int) : Prop := lf = CNT n.toNat G M ∧ PTH st O M n ∧ ∀ p : Nat, (p : Int) < n → (G p).toInt = 0
theorem BS0_out {st n n' lf : Int} {O M G : Nat → Int32} (h : BS0 st O M G n lf) (hn : n = n') (hM : ∀ q, 0 ≤ (M q).toInt) : BSt st n' O M G lf := by
  subst hn
  exact ⟨h.1, h.2.1, fun p hp => by have := h.2.2 p hp; have := hM p; omega⟩
theorem BS0_keep {st n lf : Int} {O M G O' M' G' : Nat → Int32} (h : BS0 st O M G n lf) (h0 : 0 ≤ n) (hO : ∀ q : Nat, (q : Int) < 24 * n → O' q = O q) (hM : ∀ q : Nat, (q : Int) < n → M' q = M q) (hG : ∀ q : Nat, (q : Int) < n → G' q = G q) (hm : ∀ q, 0 ≤ (M q).toInt ∧ (M q).toInt ≤ 24) : BS0 st O' M' G' n lf := by
  refine ⟨?_, fun p hp hp0 => ?_, fun p hp => by rw [hG p hp]; exact h.2.2 p hp⟩
  · rw [CNT_congr (G := G) (M := M) (fun q hq => hG q (by omega)) (fun q hq => hM q (by omega))]; exact h.1
  · rw [hM p hp] at hp0 ⊢
    have h1 := h.2.1 p hp hp0
    have h2 := hm p
    refine ⟨by rw [hO _ (by omega)]; exact h1.1, fun k hk => ?_⟩
    rw [hO _ (by omega), hO _ (by omega)]
    exact h1.2 k hk
theorem BS0_next {st n n' lf lf' : Int} {O M G R : Nat → Int32} {p : Nat} (h : BS0 st O M G n lf) (hp : (p : Int) = n) (hn : n' = n + 1) (hG : (G p).toInt = 0) (hM : 0 ≤ (M p).toInt ∧ (M p).toInt ≤ 24) (hR : (M p).toInt = 0 ∨ CRP R (M p).toInt (st - 1)) (hO : ∀ k : Nat, (k : Int) < (M p).toInt → O (24 * p + k) = R k)
    (hlf : (0 < (M p).toInt ∧ lf' = lf + 1) ∨ (¬ 0 < (M p).toInt ∧ lf' = lf)) : BS0 st O M G n' lf' := by
  refine ⟨?_, fun p' hp' h0 => ?_, fun p' hp' => ?_⟩
  · rw [hn, show (n + 1).toNat = p + 1 by omega]
    show lf' = CNT p G M + _
    rw [show p = n.toNat by omega, ← h.1, show n.toNat = p by omega, hG]
    rcases hlf with h1 | h1
    · rw [if_pos h1.1]; exact h1.2
    · rw [if_neg h1.1]; omega
  · by_cases e : p' = p
    · subst e
      rcases hR with h1 | h1
      · omega
      · refine ⟨?_, fun k hk => ?_⟩
        · rw [hO _ (by omega)]; exact h1.2.1 h0
        · rw [hO _ (by omega), hO _ (by omega)]
          exact (h1.1 (k + 1) (by omega)).2.2 k (by omega)
    · exact h.2.1 p' (by omega) h0
  · by_cases e : p' = p
    · subst e; exact hG
    · exact h.2.2 p' (by omega)
