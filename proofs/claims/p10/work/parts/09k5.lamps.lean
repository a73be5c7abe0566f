
set_option maxHeartbeats 4000000 in
set_option maxRecDepth 100000 in
theorem s10_X11_tellNothing {Z : jZ} {I : jI} {L : jL} (w_I : WD Z I) (v0 : Nat) (kv0 : jk Z v0 11) {Q : jI → jL → Prop} (hQ : ∀  (I' : jI) (L' : jL), WD Z I' → FR Ws_X11_tellNothing Z I Z I' → ((I' v0 16).toInt = 0) → Q I' L') : f_X11_tellNothing v0 Z I L Q := by
  unfold f_X11_tellNothing
  have q_I : FR Ws_X11_tellNothing Z I Z I := FR.rf
  have t1 : 0 ≤ (I v0 16).toInt ∧ (I v0 16).toInt ≤ 26 := w_I.fld 11 16 kv0 (by decide)
  intro I2 eI2
  have t3 : (0 : Int32).toInt = 0 := rfl
  have w_I2 : WD Z I2 := by rw [eI2]; exact WD_putF w_I 11 16 kv0 (by decide) (by decide) (by constructor <;> omega)
  have f_I2 : FR [(11, 16)] Z I Z I2 := by rw [eI2]; exact FR_putF kv0 (by decide) List.mem_cons_self
  have q_I2 : FR Ws_X11_tellNothing Z I Z I2 := q_I.trans w_I.1 w_I.2.1 (f_I2.mono (by decide))
  first | (have u4 : (I2 v0 16).toInt = (0) := by (rw [eI2, show jpI I v0 16 (0 : Int32) v0 16 = (0 : Int32) from jpI_at] <;> exact (show (0 : Int32).toInt = 0 from rfl))) | skip
  exact hQ  I2 L w_I2 q_I2 (by omega)

set_option maxHeartbeats 4000000 in
set_option maxRecDepth 100000 in
theorem s10_X11_tellMore {Z : jZ} {I : jI} {L : jL} (w_I : WD Z I) (v0 : Nat) (v1 : Int64) (kv0 : jk Z v0 11) {Q : jI → jL → Prop} (hQ : ∀  (I' : jI) (L' : jL), WD Z I' → FR Ws_X11_tellMore Z I Z I' → ((I v0 16).toInt < 26 → (I' v0 16).toInt = (I v0 16).toInt + 1) → Q I' L') : f_X11_tellMore v0 v1 Z I L Q := by
  unfold f_X11_tellMore
  have q_I : FR Ws_X11_tellMore Z I Z I := FR.rf
  have t1 : 0 ≤ (I v0 16).toInt ∧ (I v0 16).toInt ≤ 26 := w_I.fld 11 16 kv0 (by decide)
  have t3 : 0 ≤ (I v0 16).toInt ∧ (I v0 16).toInt ≤ 26 := w_I.fld 11 16 kv0 (by decide)
  intro b4 eb4
  obtain ⟨x5, ex5, kb4, lb4⟩ := sh_f w_I.1 kv0 (j := 15) (k := 15) (m := 26) rfl
  cases eb4.symm.trans ex5
  refine ⟨fun c6 => ?_, fun c6 => ?_⟩
  · skip
    first | (have t7 : (26) ≤ (I v0 16).toInt := (i_le (show (26 : Int32).toInt = 26 from rfl) rfl).mp c6) | (have t7 : (26 : Int32).toInt ≤ (I v0 16).toInt := (i_le rfl rfl).mp c6) | skip
    exact hQ  I L w_I q_I (by intro h9; omega)
  · skip
    first | (have t8 : ¬ ((26) ≤ (I v0 16).toInt) := (not_congr (i_le (show (26 : Int32).toInt = 26 from rfl) rfl)).mp c6) | (have t8 : ¬ ((26 : Int32).toInt ≤ (I v0 16).toInt) := (not_congr (i_le rfl rfl)).mp c6) | skip
    intro b9 eb9
    obtain rfl : b4 = b9 := Option.some.inj (eb4.symm.trans eb9)
    have t11 : 0 ≤ (I v0 16).toInt ∧ (I v0 16).toInt ≤ 26 := w_I.fld 11 16 kv0 (by decide)
    have o12 : vp_in (I v0 16) 26 := vi_of rfl (by omega) (by omega)
    refine ⟨o12, ?_⟩
    intro L13 eL13
    have t15 : 0 ≤ (I v0 16).toInt ∧ (I v0 16).toInt ≤ 26 := w_I.fld 11 16 kv0 (by decide)
    intro I16 eI16
    try (have t17 : ((I v0 16) + (1 : Int32)).toInt = ((I v0 16).toInt + (1)) := (i_add rfl (show (1 : Int32).toInt = 1 from rfl) (by omega) (by omega)))
    have w_I16 : WD Z I16 := by rw [eI16]; exact WD_putF w_I 11 16 kv0 (by decide) (by decide) (by constructor <;> omega)
    have f_I16 : FR [(11, 16)] Z I Z I16 := by rw [eI16]; exact FR_putF kv0 (by decide) List.mem_cons_self
    have q_I16 : FR Ws_X11_tellMore Z I Z I16 := q_I.trans w_I.1 w_I.2.1 (f_I16.mono (by decide))
    first | (have u18 : (I16 v0 16).toInt = ((I v0 16).toInt + (1)) := by (rw [eI16, show jpI I v0 16 ((I v0 16) + (1 : Int32)) v0 16 = ((I v0 16) + (1 : Int32)) from jpI_at] <;> exact (i_add rfl (show (1 : Int32).toInt = 1 from rfl) (by omega) (by omega)))) | skip
    exact hQ  I16 L13 w_I16 q_I16 (by intro h9; omega)

/-! ===== lamps ===== -/
/-- the place that is dark behind k lamps -/
def lc (d : Int) : Nat → Int
  | 0 => 0
  | k + 1 => lc d k + (2 * d + 1)
def LMP (s d : Int) (k : Nat) : Prop := s ≤ lc d k ∧ ∀ j, j < k → lc d j < s
theorem LMP_u {s d : Int} {k k' : Nat} (h : LMP s d k) (h' : LMP s d k') : k = k' := by
  rcases Nat.lt_trichotomy k k' with c | c | c
  · have := h'.2 k c; have := h.1; omega
  · exact c
  · have := h.2 k' c; have := h'.1; omega
theorem lc_ge {d : Int} (h : 0 ≤ d) : ∀ k : Nat, (k : Int) ≤ lc d k := by
  intro k
  induction k with
  | zero => show (0 : Int) ≤ 0; omega
  | succ k ih => show ((k + 1 : Nat) : Int) ≤ lc d k + (2 * d + 1); omega
/-- what lamps answers -/
def LMr (s d r : Int) : Prop := (r = -1 ∧ ¬ (0 ≤ d ∧ d ≤ 23 ∧ ¬ s = 0)) ∨ (0 ≤ d ∧ d ≤ 23 ∧ ¬ s = 0 ∧ ∃ k : Nat, r = (k : Int) ∧ LMP s d k)
theorem LMr_eq {s s' d r r' : Int} (h : LMr s d r) (h' : LMr s' d r') (e : s = s') : r = r' := by
  subst e
  rcases h with h | ⟨h1, h2, h3, k, h4, h5⟩
  · rcases h' with g | ⟨g1, g2, g3, -⟩
    · omega
    · exact absurd ⟨g1, g2, g3⟩ h.2
  · rcases h' with g | ⟨g1, g2, g3, k', g4, g5⟩
    · exact absurd ⟨h1, h2, h3⟩ g.2
    · rw [h4, g4, LMP_u h5 g5]
theorem c_lamps {Z : jZ} {I0 : jI} {v0 uF : Nat} {v1 : Int32} {d s : Int} {Q : Int32 → jI → jL → Prop} (w0 : WD Z I0) (k0 : jk Z v0 11) (hF : jr Z v0 2 = some uF) (kF : jk Z uF 8) (ed : v1.toInt = d) (hd : 0 ≤ d ∧ d ≤ 23) (hs : s ≤ 24)
    (hQ : ∀ (r : Int32) (I' : jI) (L' : jL) (k : Nat), WD Z I' → FR Ws_X11_lamps Z I0 Z I' → r.toInt = (k : Int) → LMP s d k → Q r I' L') :
    ∀ (m k : Nat) (v2 : Int32) (I : jI) (L : jL), WD Z I → FR Ws_X11_lamps Z I0 Z I → (I uF 9).toInt = s → v2.toInt = lc d k → (I v0 16).toInt = (k : Int) → (∀ j, j < k → lc d j < s) → k ≤ 24 → 26 ≤ m + k → f_X11_lamps_L28 Z Q m v0 v1 v2 I L := by
  intro m
  induction m with
  | zero => intro k v2 I L w f e1 e2 e3 h1 h2 h3; exfalso; omega
  | succ m ih =>
    intro k v2 I L w f e1 e2 e3 h1 h2 h3
    have lk := lc_ge hd.1 k
    unfold f_X11_lamps_L28
    intro b1 eb1
    cases hF.symm.trans eb1
    refine ⟨fun c => ?_, fun c => ?_⟩
    · have c := (i_le e1 e2).mp c
      exact hQ _ I L k w f e3 ⟨c, h1⟩
    have c := (not_congr (i_le e1 e2)).mp c
    intro b3 eb3
    cases hF.symm.trans eb3
    refine s10_X11_tellMore w v0 _ k0 (fun I6 L7 w6 f6 p6 => ?_)
    intro x10 e10
    have d10 : x10.toInt = lc d (k + 1) := by
      rw [e10]
      exact (i_add e2 (i_add (i_mul (show (2 : Int32).toInt = 2 from rfl) ed (by omega) (by omega)) (show (1 : Int32).toInt = 1 from rfl) (by omega) (by omega)) (by omega) (by omega)).trans (by show lc d k + (2 * d + 1) = _; rfl)
    have p6 := p6 (by omega)
    refine ih (k + 1) x10 I6 L7 w6 (f.trans w0.1 w0.2.1 (f6.mono (by decide))) ?_ d10 (by omega) (fun j hj => ?_) (by omega) (by omega)
    · rw [f6.2.2.1 uF 8 9 kF (by decide) (by decide)]; exact e1
    · by_cases q : j = k
      · subst q; omega
      · exact h1 j (by omega)
theorem s9_X11_lamps {Z : jZ} {I : jI} {L : jL} (w : WD Z I) (v0 : Nat) (v1 : Int32) (kv0 : jk Z v0 11) (uF : Nat) (huF : jr Z v0 2 = some uF) {Q : Int32 → jI → jL → Prop} (hQ : ∀ (r : Int32) (I' : jI) (L' : jL), WD Z I' → FR Ws_X11_lamps Z I Z I' → LMr (I uF 9).toInt v1.toInt r.toInt → Q r I' L') : f_X11_lamps v0 v1 Z I L Q := by
  have kF : jk Z uF 8 := by obtain ⟨b9, e9, k9⟩ := sh_o w.1 kv0 (j := 2) (k := 8) rfl; cases huF.symm.trans e9; exact k9
  have sz : 0 ≤ (I uF 9).toInt ∧ (I uF 9).toInt ≤ 24 := w.fld 8 9 kF (by decide)
  unfold f_X11_lamps
  refine ⟨fun c => ?_, fun c => ⟨fun c1 => ?_, fun c1 => ?_⟩⟩
  · have c := (i_lt (x := v1) (y := 0) rfl (show (0 : Int32).toInt = 0 from rfl)).mp c
    exact hQ _ I L w FR.rf (Or.inl ⟨rfl, by omega⟩)
  · have c1 := (i_le (x := 24) (y := v1) (show (24 : Int32).toInt = 24 from rfl) rfl).mp c1
    exact hQ _ I L w FR.rf (Or.inl ⟨rfl, by omega⟩)
  have c := (not_congr (i_lt (x := v1) (y := 0) rfl (show (0 : Int32).toInt = 0 from rfl))).mp c
  have c1 := (not_congr (i_le (x := 24) (y := v1) (show (24 : Int32).toInt = 24 from rfl) rfl)).mp c1
  intro b13 eb13
  cases huF.symm.trans eb13
  refine ⟨fun c2 => ?_, fun c2 => ?_⟩
  · have c2 := (not_congr (i_eq (y := 0) rfl (show (0 : Int32).toInt = 0 from rfl))).mp c2
    refine s10_X11_tellNothing w v0 kv0 (fun I1 L1 w1 f1 p1 => ?_)
    have z : (0 : Int32).toInt = 0 := rfl
    have e9 : (I1 uF 9).toInt = (I uF 9).toInt := by rw [f1.2.2.1 uF 8 9 kF (by decide) (by decide)]
    exact ⟨26, c_lamps (s := (I uF 9).toInt) w kv0 huF kF rfl (by omega) sz.2 (fun r I' L' k w' f' er hk => hQ r I' L' w' f' (Or.inr ⟨by omega, by omega, c2, k, er, hk⟩)) 26 0 0 I1 L1 w1 (f1.mono (by decide)) e9 z p1 (fun j hj => absurd hj (Nat.not_lt_zero j)) (by omega) (by omega)⟩
  · have c2 := (i_eq (y := 0) rfl (show (0 : Int32).toInt = 0 from rfl)).mp c2
    exact hQ _ I L w FR.rf (Or.inl ⟨rfl, by omega⟩)
theorem m_lamps {Z : jZ} {I0 : jI} {v0 : Nat} {v1 : Int32} {d s : Int} {Q : Int32 → jI → jL → Prop} (w0 : WD Z I0) (k0 : jk Z v0 12) (ed : v1.toInt = d) (hd : 0 ≤ d ∧ d ≤ 23) (hs : 1 ≤ s ∧ s ≤ 24)
    (hQ : ∀ (r : Int32) (I' : jI) (L' : jL) (k : Nat), WD Z I' → FR Ws_X12_lamps Z I0 Z I' → r.toInt = (k : Int) → LMP s d k → Q r I' L') :
    ∀ (m k : Nat) (v2 v3 : Int32) (I : jI) (L : jL), WD Z I → FR Ws_X12_lamps Z I0 Z I → (I v0 0).toInt = s → v2.toInt = (k : Int) → (v3.toInt = lc d k ∨ (s ≤ v3.toInt ∧ s ≤ lc d k)) → 0 ≤ v3.toInt → v3.toInt ≤ 100 → (I v0 21).toInt = (k : Int) → (∀ j, j < k → lc d j < s) → k ≤ 24 → 26 ≤ m + k → f_X12_lamps_L33 Z Q m v0 v1 v2 v3 I L := by
  intro m
  induction m with
  | zero => intro k v2 v3 I L w f e1 e2 e3 g1 g2 e4 h1 h2 h3; exfalso; omega
  | succ m ih =>
    intro k v2 v3 I L w f e1 e2 e3 g1 g2 e4 h1 h2 h3
    have lk := lc_ge hd.1 k
    unfold f_X12_lamps_L33
    refine ⟨fun c => ?_, fun c => ?_⟩
    · have c := (i_le e1 rfl).mp c
      exact hQ _ I L k w f e2 ⟨by omega, h1⟩
    have c := (not_congr (i_le e1 rfl)).mp c
    have e3 : v3.toInt = lc d k := by omega
    intro x2 ex2
    have d2 : x2.toInt = min (s - 1) (v3.toInt + d) := by
      rw [ex2]
      exact i_min (i_sub e1 (show (1 : Int32).toInt = 1 from rfl) (by omega) (by omega)) (i_add rfl ed (by omega) (by omega))
    refine s_X12_tell w v0 _ k0 (by omega) (fun I5 L6 w5 f5 p5 => ?_)
    intro x9 ex9 x10 ex10
    have d9 : x9.toInt = min (s - 1) (v3.toInt + d) + d + 1 := by
      rw [ex9]
      exact i_add (i_add d2 ed (by omega) (by omega)) (show (1 : Int32).toInt = 1 from rfl) (by omega) (by omega)
    have d10 : x10.toInt = ((k + 1 : Nat) : Int) := by
      rw [ex10]
      exact (i_add e2 (show (1 : Int32).toInt = 1 from rfl) (by omega) (by omega)).trans (by omega)
    have lk1 : lc d (k + 1) = lc d k + (2 * d + 1) := rfl
    refine ih (k + 1) x10 x9 I5 L6 w5 (f.trans w0.1 w0.2.1 (f5.mono (by decide))) ?_ d10 (by omega) (by omega) (by omega) (by omega) (fun j hj => ?_) (by omega) (by omega)
    · rw [f5.2.2.1 v0 12 0 k0 (by decide) (by decide)]; exact e1
    · by_cases q : j = k
      · subst q; omega
      · exact h1 j (by omega)
theorem s9_X12_lamps {Z : jZ} {I : jI} {L : jL} (w : WD Z I) (v0 : Nat) (v1 : Int32) (kv0 : jk Z v0 12) {Q : Int32 → jI → jL → Prop} (hQ : ∀ (r : Int32) (I' : jI) (L' : jL), WD Z I' → FR Ws_X12_lamps Z I Z I' → LMr (I v0 0).toInt v1.toInt r.toInt → Q r I' L') : f_X12_lamps v0 v1 Z I L Q := by
  have sz : 0 ≤ (I v0 0).toInt ∧ (I v0 0).toInt ≤ 24 := w.fld 12 0 kv0 (by decide)
  unfold f_X12_lamps
  intro I1 e1
  have w1 : WD Z I1 := by rw [e1]; exact WD_putF w 12 22 kv0 (by decide) (by decide) trivial
  have f1 : FR Ws_X12_lamps Z I Z I1 := by rw [e1]; exact FR_putF kv0 (by decide) (by decide)
  have z1 : I1 v0 0 = I v0 0 := by rw [e1, jpI_o (by decide)]
  rw [z1]
  refine ⟨fun c => ?_, fun c => ?_⟩
  · have c := (i_eq (y := 0) rfl (show (0 : Int32).toInt = 0 from rfl)).mp c
    exact hQ _ I1 L w1 f1 (Or.inl ⟨rfl, by omega⟩)
  have c := (not_congr (i_eq (y := 0) rfl (show (0 : Int32).toInt = 0 from rfl))).mp c
  have z : (0 : Int32).toInt = 0 := rfl
  have z23 : (23 : Int32).toInt = 23 := rfl
  refine s_X12_in w1 v1 0 23 (fun r19 p19 => ⟨fun c2 => ?_, fun c2 => ?_⟩)
  · have c2 := (not_congr (i_eq (x := r19) (y := 0) rfl z)).mp c2
    rw [z, z23] at p19
    intro I2 e2
    have w2 : WD Z I2 := by rw [e2]; exact WD_putF w1 12 21 kv0 (by decide) (by decide) (show rg 0 40 _ from ⟨by decide, by decide⟩)
    have f2 : FR Ws_X12_lamps Z I Z I2 := f1.trans w.1 w.2.1 (by rw [e2]; exact FR_putF kv0 (by decide) (by decide))
    exact ⟨26, m_lamps (s := (I v0 0).toInt) w kv0 rfl (by omega) (by omega) (fun r I' L' k w' f' er hk => hQ r I' L' w' f' (Or.inr ⟨by omega, by omega, c, k, er, hk⟩)) 26 0 0 0 I2 L w2 f2 (by rw [e2, jpI_o (by decide), z1]) z (Or.inl z) (by rw [z]; omega) (by rw [z]; omega) (by rw [e2, jpI_at]; rfl) (fun j hj => absurd hj (Nat.not_lt_zero j)) (by omega) (by omega)⟩
  · have c2 := (i_eq (x := r19) (y := 0) rfl z).mp c2
    rw [z, z23] at p19
    exact hQ _ I1 L w1 f1 (Or.inl ⟨rfl, by omega⟩)
