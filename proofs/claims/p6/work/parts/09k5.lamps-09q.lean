section

set_option maxHeartbeats 4000000 in
set_option maxRecDepth 100000 in
theorem s10_X11_tellNothing {Z : jZ} {I : jI} {L : jL} (w_I : WD Z I) (v0 : Nat) (kv0 : jk Z v0 11) {Q : jI → jL → Prop} (hQ : ∀  (I' : jI) (L' : jL), WD Z I' → FR Ws_X11_tellNothing Z I Z I' → ((I' v0 16).toInt = 0) → Q I' L') : f_X11_tellNothing v0 Z I L Q := by
  unfold f_X11_tellNothing
  have q_I : FR Ws_X11_tellNothing Z I Z I := FR.rf
  have t1 : 0 ≤ (I v0 16).toInt ∧ (I v0 16).toInt ≤ 26 := w_I.fld 11 16 kv0 (by decide)
  intro I2 eI2
  have t3 : (0 : Int32).toInt = 0 := rfl
  have w_I2 : WD Z I2 := by rw [eI2]; exact WD_putF w_I 11 16 kv0 (by decide) (by decide) (by constructor <;> omega)
  have f_I2 : FR [(11, 16)] Z I Z I2 := by rw [eI2]; exact FR_putF kv0 (by decide) List.mem_cons_self
  have q_I2 : FR Ws_X11_tellNothing Z I Z I2 := q_I.trans w_I.1 w_I.2.1 (f_I2.mono (by decide))
  first | (have u4 : (I2 v0 16).toInt = (0) := by (rw [eI2, show jpI I v0 16 (0 : Int32) v0 16 = (0 : Int32) from jpI_at] <;> exact (show (0 : Int32).toInt = 0 from rfl))) | skip
  exact hQ  I2 L w_I2 q_I2 (by omega)

set_option maxHeartbeats 4000000 in
set_option maxRecDepth 100000 in
theorem s10_X11_tellMore {Z : jZ} {I : jI} {L : jL} (w_I : WD Z I) (v0 : Nat) (v1 : Int64) (kv0 : jk Z v0 11) {Q : jI → jL → Prop} (hQ : ∀  (I' : jI) (L' : jL), WD Z I' → FR Ws_X11_tellMore Z I Z I' → ((I v0 16).toInt < 26 → (I' v0 16).toInt = (I v0 16).toInt + 1) → Q I' L') : f_X11_tellMore v0 v1 Z I L Q := by
  unfold f_X11_tellMore
  have q_I : FR Ws_X11_tellMore Z I Z I := FR.rf
  have t1 : 0 ≤ (I v0 16).toInt ∧ (I v0 16).toInt ≤ 26 := w_I.fld 11 16 kv0 (by decide)
  have t3 : 0 ≤ (I v0 16).toInt ∧ (I v0 16).toInt ≤ 26 := w_I.fld 11 16 kv0 (by decide)
  intro b4 eb4
  obtain ⟨x5, ex5, kb4, lb4⟩ := sh_f w_I.1 kv0 (j := 15) (k := 15) (m := 26) rfl
  cases eb4.symm.trans ex5
  refine ⟨fun c6 => ?_, fun c6 => ?_⟩
  · skip
    first | (have t7 : (26) ≤ (I v0 16).toInt := (i_le (show (26 : Int32).toInt = 26 from rfl) rfl).mp c6) | (have t7 : (26 : Int32).toInt ≤ (I v0 16).toInt := (i_le rfl rfl).mp c6) | skip
    exact hQ  I L w_I q_I (by intro h9; omega)
  · skip
    first | (have t8 : ¬ ((26) ≤ (I v0 16).toInt) := (not_congr (i_le (show (26 : Int32).toInt = 26 from rfl) rfl)).mp c6) | (have t8 : ¬ ((26 : Int32).toInt ≤ (I v0 16).toInt) := (not_congr (i_le rfl rfl)).mp c6) | skip
    intro b9 eb9
    obtain rfl : b4 = b9 := Option.some.inj (eb4.symm.trans eb9)
    have t11 : 0 ≤ (I v0 16).toInt ∧ (I v0 16).toInt ≤ 26 := w_I.fld 11 16 kv0 (by decide)
    have o12 : vp_in (I v0 16) 26 := vi_of rfl (by omega) (by omega)
    refine ⟨o12, ?_⟩
    intro L13 eL13
    have t15 : 0 ≤ (I v0 16).toInt ∧ (I v0 16).toInt ≤ 26 := w_I.fld 11 16 kv0 (by decide)
    intro I16 eI16
    try (have t17 : ((I v0 16) + (1 : Int32)).toInt = ((I v0 16).toInt + (1)) := (i_add rfl (show (1 : Int32).toInt = 1 from rfl) (by omega) (by omega)))
    have w_I16 : WD Z I16 := by rw [eI16]; exact WD_putF w_I 11 16 kv0 (by decide) (by decide) (by constructor <;> omega)
    have f_I16 : FR [(11, 16)] Z I Z I16 := by rw [eI16]; exact FR_putF kv0 (by decide) List.mem_cons_self
    have q_I16 : FR Ws_X11_tellMore Z I Z I16 := q_I.trans w_I.1 w_I.2.1 (f_I16.mono (by decide))
    first | (have u18 : (I16 v0 16).toInt = ((I v0 16).toInt + (1)) := by (rw [eI16, show jpI I v0 16 ((I v0 16) + (1 : Int32)) v0 16 = ((I v0 16) + (1 : Int32)) from jpI_at] <;> exact (i_add rfl (show (1 : Int32).toInt = 1 from rfl) (by omega) (by omega)))) | skip
    exact hQ  I16 L13 w_I16 q_I16 (by intro h9; omega)

/-! ===== lamps ===== -/
/-- the place that is dark behind k lamps -/
def lc (d : Int) : Nat → Int
  | 0 => 0
  | k + 1 => lc d k + (2 * d + 1)
def LMP (s d : Int) (k : Nat) : Prop := s ≤ lc d k ∧ ∀ j, j < k → lc d j < s
theorem LMP_u {s d : Int} {k k' : Nat} (h : LMP s d k) (h' : LMP s d k') : k = k' := by
  rcases Nat.lt_trichotomy k k' with c | c | c
  · have := h'.2 k c; have := h.1; omega
  · exact c
  · have := h.2 k' c; have := h'.1; omega
theorem lc_ge {d : Int} (h : 0 ≤ d) : ∀ k : Nat, (k : Int) ≤ lc d k := by
  intro k
  induction k with
  | zero => show (0 : Int) ≤ 0; omega
  | succ k ih => show ((k + 1 : Nat) : Int) ≤ lc d k + (2 * d + 1); omega
/-- what lamps answers -/
def LMr (s d r : Int) : Prop := (r = -1 ∧ ¬ (0 ≤ d ∧ d ≤ 23 ∧ ¬ s = 0)) ∨ (0 ≤ d ∧ d ≤ 23 ∧ ¬ s = 0 ∧ ∃ k : Nat, r = (k : Int) ∧ LMP s d k)
theorem LMr_eq {s s' d r r' : Int} (h : LMr s d r) (h' : LMr s' d r') (e : s = s') : r = r' := by
  subst e
  rcases h with h | ⟨h1, h2, h3, k, h4, h5⟩
  · rcases h' with g | ⟨g1, g2, g3, -⟩
    · omega
    · exact absurd ⟨g1, g2, g3⟩ h.2
  · rcases h' with g | ⟨g1, g2, g3, k', g4, g5⟩
    · exact absurd ⟨h1, h2, h3⟩ g.2
    · rw [h4, g4, LMP_u h5 g5]
theorem c_lamps {Z : jZ} {I0 : jI} {v0 uF : Nat} {v1 : Int32} {d s : Int} {Q : Int32 → jI → jL → Prop} (w0 : WD Z I0) (k0 : jk Z v0 11) (hF : jr Z v0 2 = some uF) (kF : jk Z uF 8) (ed : v1.toInt = d) (hd : 0 ≤ d ∧ d ≤ 23) (hs : s ≤ 24)
    (hQ : ∀ (r : Int32) (I' : jI) (L' : jL) (k : Nat), WD Z I' → FR Ws_X11_lamps Z I0 Z I' → r.toInt = (k : Int) → LMP s d k → Q r I' L') :
    ∀ (m k : Nat) (v2 : Int32) (I : jI) (L : jL), WD Z I → FR Ws_X11_lamps Z I0 Z I → (I uF 9).toInt = s → v2.toInt = lc d k → (I v0 16).toInt = (k : Int) → (∀ j, j < k → lc d j < s) → k ≤ 24 → 26 ≤ m + k → f_X11_lamps_L28 Z Q m v0 v1 v2 I L := by
  intro m
  induction m with
  | zero => intro k v2 I L w f e1 e2 e3 h1 h2 h3; exfalso; omega
  | succ m ih =>
    intro k v2 I L w f e1 e2 e3 h1 h2 h3
    have lk := lc_ge hd.1 k
    unfold f_X11_lamps_L28
    intro b1 eb1
    cases hF.symm.trans eb1
    refine ⟨fun c => ?_, fun c => ?_⟩
    · have c := (i_le e1 e2).mp c
      exact hQ _ I L k w f e3 ⟨c, h1⟩
    have c := (not_congr (i_le e1 e2)).mp c
    intro b3 eb3
    cases hF.symm.trans eb3
    refine s10_X11_tellMore w v0 _ k0 (fun I6 L7 w6 f6 p6 => ?_)
    intro x10 e10
    have d10 : x10.toInt = lc d (k + 1) := by
      rw [e10]
      exact (i_add e2 (i_add (i_mul (show (2 : Int32).toInt = 2 from rfl) ed (by omega) (by omega)) (show (1 : Int32).toInt = 1 from rfl) (by omega) (by omega)) (by omega) (by omega)).trans (by show lc d k + (2 * d + 1) = _; rfl)
    have p6 := p6 (by omega)
    refine ih (k + 1) x10 I6 L7 w6 (f.trans w0.1 w0.2.1 (f6.mono (by decide))) ?_ d10 (by omega) (fun j hj => ?_) (by omega) (by omega)
    · rw [f6.2.2.1 uF 8 9 kF (by decide) (by decide)]; exact e1
    · by_cases q : j = k
      · subst q; omega
      · exact h1 j (by omega)
theorem s9_X11_lamps {Z : jZ} {I : jI} {L : jL} (w : WD Z I) (v0 : Nat) (v1 : Int32) (kv0 : jk Z v0 11) (uF : Nat) (huF : jr Z v0 2 = some uF) {Q : Int32 → jI → jL → Prop} (hQ : ∀ (r : Int32) (I' : jI) (L' : jL), WD Z I' → FR Ws_X11_lamps Z I Z I' → LMr (I uF 9).toInt v1.toInt r.toInt → Q r I' L') : f_X11_lamps v0 v1 Z I L Q := by
  have kF : jk Z uF 8 := by obtain ⟨b9, e9, k9⟩ := sh_o w.1 kv0 (j := 2) (k := 8) rfl; cases huF.symm.trans e9; exact k9
  have sz : 0 ≤ (I uF 9).toInt ∧ (I uF 9).toInt ≤ 24 := w.fld 8 9 kF (by decide)
  unfold f_X11_lamps
  refine ⟨fun c => ?_, fun c => ⟨fun c1 => ?_, fun c1 => ?_⟩⟩
  · have c := (i_lt (x := v1) (y := 0) rfl (show (0 : Int32).toInt = 0 from rfl)).mp c
    exact hQ _ I L w FR.rf (Or.inl ⟨rfl, by omega⟩)
  · have c1 := (i_le (x := 24) (y := v1) (show (24 : Int32).toInt = 24 from rfl) rfl).mp c1
    exact hQ _ I L w FR.rf (Or.inl ⟨rfl, by omega⟩)
  have c := (not_congr (i_lt (x := v1) (y := 0) rfl (show (0 : Int32).toInt = 0 from rfl))).mp c
  have c1 := (not_congr (i_le (x := 24) (y := v1) (show (24 : Int32).toInt = 24 from rfl) rfl)).mp c1
  intro b13 eb13
  cases huF.symm.trans eb13
  refine ⟨fun c2 => ?_, fun c2 => ?_⟩
  · have c2 := (not_congr (i_eq (y := 0) rfl (show (0 : Int32).toInt = 0 from rfl))).mp c2
    refine s10_X11_tellNothing w v0 kv0 (fun I1 L1 w1 f1 p1 => ?_)
    have z : (0 : Int32).toInt = 0 := rfl
    have e9 : (I1 uF 9).toInt = (I uF 9).toInt := by rw [f1.2.2.1 uF 8 9 kF (by decide) (by decide)]
    exact ⟨26, c_lamps (s := (I uF 9).toInt) w kv0 huF kF rfl (by omega) sz.2 (fun r I' L' k w' f' er hk => hQ r I' L' w' f' (Or.inr ⟨by omega, by omega, c2, k, er, hk⟩)) 26 0 0 I1 L1 w1 (f1.mono (by decide)) e9 z p1 (fun j hj => absurd hj (Nat.not_lt_zero j)) (by omega) (by omega)⟩
  · have c2 := (i_eq (y := 0) rfl (show (0 : Int32).toInt = 0 from rfl)).mp c2
    exact hQ _ I L w FR.rf (Or.inl ⟨rfl, by omega⟩)
theorem m_lamps {Z : jZ} {I0 : jI} {v0 : Nat} {v1 : Int32} {d s : Int} {Q : Int32 → jI → jL → Prop} (w0 : WD Z I0) (k0 : jk Z v0 12) (ed : v1.toInt = d) (hd : 0 ≤ d ∧ d ≤ 23) (hs : 1 ≤ s ∧ s ≤ 24)
    (hQ : ∀ (r : Int32) (I' : jI) (L' : jL) (k : Nat), WD Z I' → FR Ws_X12_lamps Z I0 Z I' → r.toInt = (k : Int) → LMP s d k → Q r I' L') :
    ∀ (m k : Nat) (v2 v3 : Int32) (I : jI) (L : jL), WD Z I → FR Ws_X12_lamps Z I0 Z I → (I v0 0).toInt = s → v2.toInt = (k : Int) → (v3.toInt = lc d k ∨ (s ≤ v3.toInt ∧ s ≤ lc d k)) → 0 ≤ v3.toInt → v3.toInt ≤ 100 → (I v0 21).toInt = (k : Int) → (∀ j, j < k → lc d j < s) → k ≤ 24 → 26 ≤ m + k → f_X12_lamps_L33 Z Q m v0 v1 v2 v3 I L := by
  intro m
  induction m with
  | zero => intro k v2 v3 I L w f e1 e2 e3 g1 g2 e4 h1 h2 h3; exfalso; omega
  | succ m ih =>
    intro k v2 v3 I L w f e1 e2 e3 g1 g2 e4 h1 h2 h3
    have lk := lc_ge hd.1 k
    unfold f_X12_lamps_L33
    refine ⟨fun c => ?_, fun c => ?_⟩
    · have c := (i_le e1 rfl).mp c
      exact hQ _ I L k w f e2 ⟨by omega, h1⟩
    have c := (not_congr (i_le e1 rfl)).mp c
    have e3 : v3.toInt = lc d k := by omega
    intro x2 ex2
    have d2 : x2.toInt = min (s - 1) (v3.toInt + d) := by
      rw [ex2]
      exact i_min (i_sub e1 (show (1 : Int32).toInt = 1 from rfl) (by omega) (by omega)) (i_add rfl ed (by omega) (by omega))
    refine s_X12_tell w v0 _ k0 (by omega) (fun I5 L6 w5 f5 p5 => ?_)
    intro x9 ex9 x10 ex10
    have d9 : x9.toInt = min (s - 1) (v3.toInt + d) + d + 1 := by
      rw [ex9]
      exact i_add (i_add d2 ed (by omega) (by omega)) (show (1 : Int32).toInt = 1 from rfl) (by omega) (by omega)
    have d10 : x10.toInt = ((k + 1 : Nat) : Int) := by
      rw [ex10]
      exact (i_add e2 (show (1 : Int32).toInt = 1 from rfl) (by omega) (by omega)).trans (by omega)
    have lk1 : lc d (k + 1) = lc d k + (2 * d + 1) := rfl
    refine ih (k + 1) x10 x9 I5 L6 w5 (f.trans w0.1 w0.2.1 (f5.mono (by decide))) ?_ d10 (by omega) (by omega) (by omega) (by omega) (fun j hj => ?_) (by omega) (by omega)
    · rw [f5.2.2.1 v0 12 0 k0 (by decide) (by decide)]; exact e1
    · by_cases q : j = k
      · subst q; omega
      · exact h1 j (by omega)
theorem s9_X12_lamps {Z : jZ} {I : jI} {L : jL} (w : WD Z I) (v0 : Nat) (v1 : Int32) (kv0 : jk Z v0 12) {Q : Int32 → jI → jL → Prop} (hQ : ∀ (r : Int32) (I' : jI) (L' : jL), WD Z I' → FR Ws_X12_lamps Z I Z I' → LMr (I v0 0).toInt v1.toInt r.toInt → Q r I' L') : f_X12_lamps v0 v1 Z I L Q := by
  have sz : 0 ≤ (I v0 0).toInt ∧ (I v0 0).toInt ≤ 24 := w.fld 12 0 kv0 (by decide)
  unfold f_X12_lamps
  intro I1 e1
  have w1 : WD Z I1 := by rw [e1]; exact WD_putF w 12 22 kv0 (by decide) (by decide) trivial
  have f1 : FR Ws_X12_lamps Z I Z I1 := by rw [e1]; exact FR_putF kv0 (by decide) (by decide)
  have z1 : I1 v0 0 = I v0 0 := by rw [e1, jpI_o (by decide)]
  rw [z1]
  refine ⟨fun c => ?_, fun c => ?_⟩
  · have c := (i_eq (y := 0) rfl (show (0 : Int32).toInt = 0 from rfl)).mp c
    exact hQ _ I1 L w1 f1 (Or.inl ⟨rfl, by omega⟩)
  have c := (not_congr (i_eq (y := 0) rfl (show (0 : Int32).toInt = 0 from rfl))).mp c
  have z : (0 : Int32).toInt = 0 := rfl
  have z23 : (23 : Int32).toInt = 23 := rfl
  refine s_X12_in w1 v1 0 23 (fun r19 p19 => ⟨fun c2 => ?_, fun c2 => ?_⟩)
  · have c2 := (not_congr (i_eq (x := r19) (y := 0) rfl z)).mp c2
    rw [z, z23] at p19
    intro I2 e2
    have w2 : WD Z I2 := by rw [e2]; exact WD_putF w1 12 21 kv0 (by decide) (by decide) (show rg 0 40 _ from ⟨by decide, by decide⟩)
    have f2 : FR Ws_X12_lamps Z I Z I2 := f1.trans w.1 w.2.1 (by rw [e2]; exact FR_putF kv0 (by decide) (by decide))
    exact ⟨26, m_lamps (s := (I v0 0).toInt) w kv0 rfl (by omega) (by omega) (fun r I' L' k w' f' er hk => hQ r I' L' w' f' (Or.inr ⟨by omega, by omega, c, k, er, hk⟩)) 26 0 0 0 I2 L w2 f2 (by rw [e2, jpI_o (by decide), z1]) z (Or.inl z) (by rw [z]; omega) (by rw [z]; omega) (by rw [e2, jpI_at]; rfl) (fun j hj => absurd hj (Nat.not_lt_zero j)) (by omega) (by omega)⟩
  · have c2 := (i_eq (x := r19) (y := 0) rfl z).mp c2
    rw [z, z23] at p19
    exact hQ _ I1 L w1 f1 (Or.inl ⟨rfl, by omega⟩)
end
section
def Ws_X12_countWays : List (Nat × Nat) := [(12, 24), (12, 25), (12, 26), (12, 27), (12, 31), (12, 32), (12, 33), (12, 34), (12, 37), (12, 38), (12, 45), (12, 46), (12, 47)]
set_option maxHeartbeats 4000000 in
set_option maxRecDepth 100000 in
theorem l_X12_countWays_L338 {B : Nat × Nat} {T : Nat} {Z0 : jZ} {I0 : jI} {Q : Int32 → jZ → jI → jL → Prop} (w0 : WD Z0 I0) (v0 : Nat) (v1 : Int32) (v2 : Int32) (kv0 : jk Z0 v0 12) (uC : Nat) (huC : jr Z0 v0 37 = some uC) (uE : Nat) (huE : jr Z0 v0 38 = some uE) (p0 : 0 ≤ v1.toInt ∧ v1.toInt ≤ 5 ∧ 0 ≤ v2.toInt ∧ v2.toInt ≤ 999) (v3 : Int32) (hQ : ∀ (r : Int32) (Z' : jZ) (I' : jI) (L' : jL), WD Z' I' → BUD B Z' T → FR Ws_X12_countWays Z0 I0 Z' I' → CP Z0 Z' → Q r Z' I' L') : ∀ (n : Nat) (v4 : Int32) (v5 : Int32) (Z : jZ) (I : jI) (L : jL), WD Z I → BUD B Z T → FR Ws_X12_countWays Z0 I0 Z I → CP Z0 Z →   (0 ≤ v5.toInt ∧ v5.toInt ≤ 121 ∧ 0 ≤ v1.toInt ∧ v1.toInt ≤ 5 ∧ 0 ≤ v2.toInt ∧ v2.toInt ≤ 999 ∧ v3.toInt = 121) → 121 - v5.toInt < (n : Int) → f_X12_countWays_L338 B  Q n v0 v1 v2 v3 v4 v5 Z I L := by
  intro n
  induction n with
  | zero =>
    intro v4 v5 Z I L w_I bd_Z q_I cp_Z   li  me
    exfalso
    omega
  | succ n ih =>
    intro v4 v5 Z I L w_I bd_Z q_I cp_Z   li  me
    unfold f_X12_countWays_L338
    have rv4 := i_rng v4
    have rv5 := i_rng v5
    have rv3 := i_rng v3
    have rv1 := i_rng v1
    have rv2 := i_rng v2
    have kv0_0 := kv0
    have kv0 := (q_I.1 _ _ kv0).1
    have t1 : 0 ≤ (I v0 0).toInt ∧ (I v0 0).toInt ≤ 24 := w_I.fld 12 0 kv0 (by decide)
    have huC_1 : jr Z v0 37 = some uC := (q_I.2.1 v0 12 37 kv0_0 (by decide) (by decide)).trans huC
    have luC : jlen Z uC = 75 := by obtain ⟨b9, e9, -, l9⟩ := sh_f w_I.1 kv0 (j := 37) (k := 14) (m := 75) rfl; cases huC_1.symm.trans e9; exact l9
    have kuC : jk Z uC 14 := by obtain ⟨b9, e9, k9, -⟩ := sh_f w_I.1 kv0 (j := 37) (k := 14) (m := 75) rfl; cases huC_1.symm.trans e9; exact k9
    have huE_1 : jr Z v0 38 = some uE := (q_I.2.1 v0 12 38 kv0_0 (by decide) (by decide)).trans huE
    have luE : jlen Z uE = 75 := by obtain ⟨b9, e9, -, l9⟩ := sh_f w_I.1 kv0 (j := 38) (k := 14) (m := 75) rfl; cases huE_1.symm.trans e9; exact l9
    have kuE : jk Z uE 14 := by obtain ⟨b9, e9, k9, -⟩ := sh_f w_I.1 kv0 (j := 38) (k := 14) (m := 75) rfl; cases huE_1.symm.trans e9; exact k9
    have xq_I := q_I.1
    intro b2 eb2
    obtain ⟨x3, ex3, kb2, lb2⟩ := sh_f w_I.1 kv0 (j := 9) (k := 14) (m := 6) rfl
    cases eb2.symm.trans ex3
    have o4 : vp_in v1 6 := vi_of rfl (by omega) (by omega)
    refine ⟨o4, ?_⟩
    have t5 : 0 ≤ (I b2 v1.toNatClampNeg).toInt ∧ (I b2 v1.toNatClampNeg).toInt ≤ 120 := w_I.arr 12 9 kv0 eb2 kb2 rfl rfl _
    refine ⟨fun c6 => ?_, fun c6 => ?_⟩
    · skip
      first | (have t7 : (I b2 v1.toNatClampNeg).toInt < v5.toInt := (i_lt rfl rfl).mp c6) | (have t7 : (I b2 v1.toNatClampNeg).toInt < v5.toInt := (i_lt rfl rfl).mp c6) | skip
      exact hQ v4 Z I L w_I bd_Z q_I cp_Z 
    · skip
      first | (have t8 : ¬ ((I b2 v1.toNatClampNeg).toInt < v5.toInt) := (not_congr (i_lt rfl rfl)).mp c6) | (have t8 : ¬ ((I b2 v1.toNatClampNeg).toInt < v5.toInt) := (not_congr (i_lt rfl rfl)).mp c6) | skip
      intro b9 eb9
      obtain ⟨x10, ex10, kb9, lb9⟩ := sh_f w_I.1 kv0 (j := 45) (k := 14) (m := 484000) rfl
      cases eb9.symm.trans ex10
      have t12 : 0 ≤ (I v0 0).toInt ∧ (I v0 0).toInt ≤ 24 := w_I.fld 12 0 kv0 (by decide)
      have o13 : vp_in ((((((I v0 0) - (I v0 0) / (4 : Int32) * (4 : Int32)) * v3) + v5) * (1000 : Int32)) + v2) 484000 := vi_of (i_add (i_mul (i_add (i_mul (i_rem rfl (show (4 : Int32).toInt = 4 from rfl) (by omega) (by omega)) (show v3.toInt = 121 by omega) (by omega) (by omega)) rfl (by omega) (by omega)) (show (1000 : Int32).toInt = 1000 from rfl) (by omega) (by omega)) rfl (by omega) (by omega)) (by omega) (by omega)
      refine ⟨o13, ?_⟩
      intro x14 ex14
      have rx14 := i_rng x14
      first | (have tx14 : x14.toInt = (I b9 ((((((I v0 0) - (I v0 0) / (4 : Int32) * (4 : Int32)) * v3) + v5) * (1000 : Int32)) + v2).toNatClampNeg).toInt := by (rw [ex14]; exact rfl)) | (have tx14 : x14.toInt = (I b9 ((((((I v0 0) - (I v0 0) / (4 : Int32) * (4 : Int32)) * v3) + v5) * (1000 : Int32)) + v2).toNatClampNeg).toInt := by rw [ex14])
      refine ⟨fun c15 => ?_, fun c15 => ?_⟩
      · skip
        first | (have t16 : x14.toInt ≤ (0) := (i_le rfl (show (0 : Int32).toInt = 0 from rfl)).mp c15) | (have t16 : x14.toInt ≤ (0 : Int32).toInt := (i_le rfl rfl).mp c15) | skip
        unfold f_X12_countWays_b398
        intro x17 ex17
        have rx17 := i_rng x17
        first | (have tx17 : x17.toInt = (v4.toInt + x14.toInt) := by (rw [ex17]; exact (i_add rfl rfl (by omega) (by omega)))) | (have tx17 : x17.toInt = (v4 + x14).toInt := by rw [ex17])
        intro x18 ex18
        have rx18 := i_rng x18
        first | (have tx18 : x18.toInt = v5.toInt + (1) := by (rw [ex18]; exact (i_add rfl (show (1 : Int32).toInt = 1 from rfl) (by omega) (by omega)))) | skip
        exact ih x17 x18 Z I L w_I bd_Z q_I cp_Z   (by omega)  (by omega)
      · skip
        first | (have t19 : ¬ (x14.toInt ≤ (0)) := (not_congr (i_le rfl (show (0 : Int32).toInt = 0 from rfl))).mp c15) | (have t19 : ¬ (x14.toInt ≤ (0 : Int32).toInt) := (not_congr (i_le rfl rfl)).mp c15) | skip
        refine ⟨fun c20 => ?_, fun c20 => ?_⟩
        · skip
          first | (have t21 : ¬ ((I v0 46).toInt = (-1)) := (not_congr (i_eq rfl (show (-1 : Int32).toInt = -1 from rfl))).mp c20) | (have t21 : ¬ ((I v0 46).toInt = (-1 : Int32).toInt) := (not_congr (i_eq rfl rfl)).mp c20) | skip
          unfold f_X12_countWays_b398
          intro x22 ex22
          have rx22 := i_rng x22
          first | (have tx22 : x22.toInt = (v4.toInt + x14.toInt) := by (rw [ex22]; exact (i_add rfl rfl (by omega) (by omega)))) | (have tx22 : x22.toInt = (v4 + x14).toInt := by rw [ex22])
          intro x23 ex23
          have rx23 := i_rng x23
          first | (have tx23 : x23.toInt = v5.toInt + (1) := by (rw [ex23]; exact (i_add rfl (show (1 : Int32).toInt = 1 from rfl) (by omega) (by omega)))) | skip
          exact ih x22 x23 Z I L w_I bd_Z q_I cp_Z   (by omega)  (by omega)
        · skip
          first | (have t24 : (I v0 46).toInt = (-1) := (i_eq rfl (show (-1 : Int32).toInt = -1 from rfl)).mp c20) | (have t24 : (I v0 46).toInt = (-1 : Int32).toInt := (i_eq rfl rfl).mp c20) | skip
          intro I25 eI25
          have w_I25 : WD Z I25 := by rw [eI25]; exact WD_putF w_I 12 46 kv0 (by decide) (by decide) trivial
          have f_I25 : FR [(12, 46)] Z I Z I25 := by rw [eI25]; exact FR_putF kv0 (by decide) List.mem_cons_self
          have q_I25 : FR Ws_X12_countWays Z0 I0 Z I25 := q_I.trans w0.1 w0.2.1 (f_I25.mono (by decide))
          have ao_I25_uC : I25 uC = I uC := f_I25.2.2.2 v0 12 37 uC kv0 huC_1 (by rw [kuC.2]; rfl) rfl (by decide)
          have ao_I25_uE : I25 uE = I uE := f_I25.2.2.2 v0 12 38 uE kv0 huE_1 (by rw [kuE.2]; rfl) rfl (by decide)
          have u26 : (I25 v0 0).toInt = (I v0 0).toInt := by rw [f_I25.2.2.1 v0 12 0 kv0 (by decide) (by decide)]
          first | (have u27 : (I25 v0 46).toInt = v5.toInt := by (rw [eI25, show jpI I v0 46 v5 v0 46 = v5 from jpI_at] <;> exact rfl)) | skip
          intro I28 eI28
          have w_I28 : WD Z I28 := by rw [eI28]; exact WD_putF w_I25 12 47 kv0 (by decide) (by decide) trivial
          have f_I28 : FR [(12, 47)] Z I25 Z I28 := by rw [eI28]; exact FR_putF kv0 (by decide) List.mem_cons_self
          have q_I28 : FR Ws_X12_countWays Z0 I0 Z I28 := q_I25.trans w0.1 w0.2.1 (f_I28.mono (by decide))
          have ao_I28_uC : I28 uC = I uC := (f_I28.2.2.2 v0 12 37 uC kv0 huC_1 (by rw [kuC.2]; rfl) rfl (by decide)).trans ao_I25_uC
          have ao_I28_uE : I28 uE = I uE := (f_I28.2.2.2 v0 12 38 uE kv0 huE_1 (by rw [kuE.2]; rfl) rfl (by decide)).trans ao_I25_uE
          have u29 : (I28 v0 0).toInt = (I25 v0 0).toInt := by rw [f_I28.2.2.1 v0 12 0 kv0 (by decide) (by decide)]
          have u30 : (I28 v0 46).toInt = (I25 v0 46).toInt := by rw [f_I28.2.2.1 v0 12 46 kv0 (by decide) (by decide)]
          first | (have u31 : (I28 v0 47).toInt = x14.toInt := by (rw [eI28, show jpI I25 v0 47 x14 v0 47 = x14 from jpI_at] <;> exact rfl)) | skip
          unfold f_X12_countWays_b398
          intro x32 ex32
          have rx32 := i_rng x32
          first | (have tx32 : x32.toInt = (v4.toInt + x14.toInt) := by (rw [ex32]; exact (i_add rfl rfl (by omega) (by omega)))) | (have tx32 : x32.toInt = (v4 + x14).toInt := by rw [ex32])
          intro x33 ex33
          have rx33 := i_rng x33
          first | (have tx33 : x33.toInt = v5.toInt + (1) := by (rw [ex33]; exact (i_add rfl (show (1 : Int32).toInt = 1 from rfl) (by omega) (by omega)))) | skip
          exact ih x32 x33 Z I28 L w_I28 bd_Z q_I28 cp_Z   (by omega)  (by omega)
set_option maxHeartbeats 4000000 in
set_option maxRecDepth 100000 in
theorem l_X12_countWays_L241 {B : Nat × Nat} {T : Nat} {Z0 : jZ} {I0 : jI} {Q : Int32 → jZ → jI → jL → Prop} (w0 : WD Z0 I0) (v0 : Nat) (v1 : Int32) (v2 : Int32) (kv0 : jk Z0 v0 12) (uC : Nat) (huC : jr Z0 v0 37 = some uC) (uE : Nat) (huE : jr Z0 v0 38 = some uE) (p0 : 0 ≤ v1.toInt ∧ v1.toInt ≤ 5 ∧ 0 ≤ v2.toInt ∧ v2.toInt ≤ 999) (v3 : Int32) (v4 : Int32) (v5 : Int32) (v6 : Int32) (v7 : Int32) (v8 : Int32) (v9 : Int32) (hQ : ∀ (r : Int32) (Z' : jZ) (I' : jI) (L' : jL), WD Z' I' → BUD B Z' T → FR Ws_X12_countWays Z0 I0 Z' I' → CP Z0 Z' → Q r Z' I' L') {K90 : Nat → Int32 → Int32 → Int32 → Int32 → jZ → jI → jL → Prop} {N90 : Int} (hK90 : ∀ (v4 : Int32) (Z : jZ) (I : jI) (L : jL), WD Z I → BUD B Z T → FR Ws_X12_countWays Z0 I0 Z I → CP Z0 Z →   ((0 ≤ v1.toInt ∧ v1.toInt ≤ 5 ∧ 0 ≤ v2.toInt ∧ v2.toInt ≤ 999 ∧ v3.toInt = 121 ∧ 0 ≤ v4.toInt ∧ v4.toInt ≤ 24) ∧ MVB (3 * ((I v0 0).toInt + 1)) (I v0 0).toInt (I uC) (I uE)) → 24 - v4.toInt < N90 → K90 v0 v1 v2 v3 v4 Z I L) {K165 : Nat → Int32 → Int32 → Int32 → Int32 → Int32 → Int32 → jZ → jI → jL → Prop} {N165 : Int} (hK165 : ∀ (v6 : Int32) (Z : jZ) (I : jI) (L : jL), WD Z I → BUD B Z T → FR Ws_X12_countWays Z0 I0 Z I → CP Z0 Z →   ((0 ≤ v1.toInt ∧ v1.toInt ≤ 5 ∧ 0 ≤ v2.toInt ∧ v2.toInt ≤ 999 ∧ v3.toInt = 121 ∧ 0 ≤ v4.toInt ∧ v4.toInt ≤ 23 ∧ v5.toInt = v4.toInt + 1 ∧ 1 ≤ v6.toInt ∧ v6.toInt ≤ 4 ∧ v4.toInt < (I v0 0).toInt) ∧ MVB (3 * ((I v0 0).toInt + 1)) (I v0 0).toInt (I uC) (I uE)) → 24 - v4.toInt ≤ N90 → 4 - v6.toInt < N165 → K165 v0 v1 v2 v3 v4 v5 v6 Z I L) {K221 : Nat → Int32 → Int32 → Int32 → Int32 → Int32 → Int32 → Int32 → Int32 → Int32 → jZ → jI → jL → Prop} {N221 : Int} (hK221 : ∀ (v9 : Int32) (Z : jZ) (I : jI) (L : jL), WD Z I → BUD B Z T → FR Ws_X12_countWays Z0 I0 Z I → CP Z0 Z →   ((0 ≤ v1.toInt ∧ v1.toInt ≤ 5 ∧ 0 ≤ v2.toInt ∧ v2.toInt ≤ 999 ∧ v3.toInt = 121 ∧ 0 ≤ v4.toInt ∧ v4.toInt ≤ 23 ∧ v5.toInt = v4.toInt + 1 ∧ 0 ≤ v7.toInt ∧ v7.toInt ≤ 23 ∧ 1 ≤ v6.toInt ∧ v6.toInt ≤ 3 ∧ 0 ≤ v8.toInt ∧ v8.toInt ≤ 74 ∧ 0 ≤ (I uC (v8.toNatClampNeg)).toInt ∧ (I uC (v8.toNatClampNeg)).toInt ≤ 297 ∧ 0 ≤ (I uE (v8.toNatClampNeg)).toInt ∧ (I uE (v8.toNatClampNeg)).toInt ≤ 999 ∧ 0 ≤ v9.toInt ∧ (I uE (v8.toNatClampNeg)).toInt ≤ v9.toInt ∧ v9.toInt ≤ 1000 ∧ v4.toInt < (I v0 0).toInt) ∧ MVB (3 * ((I v0 0).toInt + 1)) (I v0 0).toInt (I uC) (I uE)) → 24 - v4.toInt ≤ N90 → 4 - v6.toInt ≤ N165 → 1000 - v9.toInt < N221 → K221 v0 v1 v2 v3 v4 v5 v6 v7 v8 v9 Z I L) : ∀ (n : Nat) (v10 : Int32) (Z : jZ) (I : jI) (L : jL), WD Z I → BUD B Z T → FR Ws_X12_countWays Z0 I0 Z I → CP Z0 Z →   ((0 ≤ v1.toInt ∧ v1.toInt ≤ 5 ∧ 0 ≤ v2.toInt ∧ v2.toInt ≤ 999 ∧ v3.toInt = 121 ∧ 0 ≤ v4.toInt ∧ v4.toInt ≤ 23 ∧ v5.toInt = v4.toInt + 1 ∧ 0 ≤ v7.toInt ∧ v7.toInt ≤ 23 ∧ 1 ≤ v6.toInt ∧ v6.toInt ≤ 3 ∧ 0 ≤ v8.toInt ∧ v8.toInt ≤ 74 ∧ 0 ≤ (I uC (v8.toNatClampNeg)).toInt ∧ (I uC (v8.toNatClampNeg)).toInt ≤ 297 ∧ 0 ≤ (I uE (v8.toNatClampNeg)).toInt ∧ (I uE (v8.toNatClampNeg)).toInt ≤ 999 ∧ (I uE (v8.toNatClampNeg)).toInt ≤ v9.toInt ∧ 0 ≤ v9.toInt ∧ v9.toInt ≤ 120 ∧ (I uC (v8.toNatClampNeg)).toInt ≤ v10.toInt ∧ v10.toInt ≤ 1000 ∧ v4.toInt < (I v0 0).toInt) ∧ MVB (3 * ((I v0 0).toInt + 1)) (I v0 0).toInt (I uC) (I uE)) → 24 - v4.toInt ≤ N90 → 4 - v6.toInt ≤ N165 → 1000 - v9.toInt ≤ N221 → 1000 - v10.toInt < (n : Int) → f_X12_countWays_L241 B K90 K165 K221 Q n v0 v1 v2 v3 v4 v5 v6 v7 v8 v9 v10 Z I L := by
  intro n
  induction n with
  | zero =>
    intro v10 Z I L w_I bd_Z q_I cp_Z   li hm90 hm165 hm221 me
    exfalso
    omega
  | succ n ih =>
    intro v10 Z I L w_I bd_Z q_I cp_Z   li hm90 hm165 hm221 me
    unfold f_X12_countWays_L241
    have rv10 := i_rng v10
    have rv3 := i_rng v3
    have rv4 := i_rng v4
    have rv5 := i_rng v5
    have rv6 := i_rng v6
    have rv7 := i_rng v7
    have rv8 := i_rng v8
    have rv9 := i_rng v9
    have rv1 := i_rng v1
    have rv2 := i_rng v2
    obtain ⟨li0, li1⟩ := li
    have kv0_0 := kv0
    have kv0 := (q_I.1 _ _ kv0).1
    have t34 : 0 ≤ (I v0 0).toInt ∧ (I v0 0).toInt ≤ 24 := w_I.fld 12 0 kv0 (by decide)
    have huC_1 : jr Z v0 37 = some uC := (q_I.2.1 v0 12 37 kv0_0 (by decide) (by decide)).trans huC
    have luC : jlen Z uC = 75 := by obtain ⟨b9, e9, -, l9⟩ := sh_f w_I.1 kv0 (j := 37) (k := 14) (m := 75) rfl; cases huC_1.symm.trans e9; exact l9
    have kuC : jk Z uC 14 := by obtain ⟨b9, e9, k9, -⟩ := sh_f w_I.1 kv0 (j := 37) (k := 14) (m := 75) rfl; cases huC_1.symm.trans e9; exact k9
    have huE_1 : jr Z v0 38 = some uE := (q_I.2.1 v0 12 38 kv0_0 (by decide) (by decide)).trans huE
    have luE : jlen Z uE = 75 := by obtain ⟨b9, e9, -, l9⟩ := sh_f w_I.1 kv0 (j := 38) (k := 14) (m := 75) rfl; cases huE_1.symm.trans e9; exact l9
    have kuE : jk Z uE 14 := by obtain ⟨b9, e9, k9, -⟩ := sh_f w_I.1 kv0 (j := 38) (k := 14) (m := 75) rfl; cases huE_1.symm.trans e9; exact k9
    have xq_I := q_I.1
    have mv := li1
    refine ⟨fun c35 => ?_, fun c35 => ?_⟩
    · skip
      first | (have t36 : v2.toInt < v10.toInt := (i_lt rfl rfl).mp c35) | (have t36 : v2.toInt < v10.toInt := (i_lt rfl rfl).mp c35) | skip
      intro x37 ex37
      have rx37 := i_rng x37
      first | (have tx37 : x37.toInt = v9.toInt + (1) := by (rw [ex37]; exact (i_add rfl (show (1 : Int32).toInt = 1 from rfl) (by omega) (by omega)))) | skip
      exact hK221 x37 Z I L w_I bd_Z q_I cp_Z   (by refine ⟨?_, ?_⟩; (omega); (refine MVB.rew (by omega) (MVB.same (fun _ _ => rfl) (fun _ _ => rfl) li1))) (by omega) (by omega) (by omega)
    · skip
      first | (have t38 : ¬ (v2.toInt < v10.toInt) := (not_congr (i_lt rfl rfl)).mp c35) | (have t38 : ¬ (v2.toInt < v10.toInt) := (not_congr (i_lt rfl rfl)).mp c35) | skip
      intro b39 eb39
      obtain ⟨x40, ex40, kb39, lb39⟩ := sh_f w_I.1 kv0 (j := 45) (k := 14) (m := 484000) rfl
      cases eb39.symm.trans ex40
      have o41 : vp_in (((((v5 - v5 / (4 : Int32) * (4 : Int32)) * v3) + v9) * (1000 : Int32)) + v10) 484000 := vi_of (i_add (i_mul (i_add (i_mul (i_rem rfl (show (4 : Int32).toInt = 4 from rfl) (by omega) (by omega)) (show v3.toInt = 121 by omega) (by omega) (by omega)) rfl (by omega) (by omega)) (show (1000 : Int32).toInt = 1000 from rfl) (by omega) (by omega)) rfl (by omega) (by omega)) (by omega) (by omega)
      refine ⟨o41, ?_⟩
      intro b42 eb42
      obtain rfl : b39 = b42 := Option.some.inj (eb39.symm.trans eb42)
      intro b43 eb43
      obtain rfl : uE = b43 := Option.some.inj (huE_1.symm.trans eb43)
      have o44 : vp_in v8 75 := vi_of rfl (by omega) (by omega)
      refine ⟨o44, ?_⟩
      intro b45 eb45
      obtain rfl : uC = b45 := Option.some.inj (huC_1.symm.trans eb45)
      have o46 : vp_in v8 75 := vi_of rfl (by omega) (by omega)
      refine ⟨o46, ?_⟩
      have o47 : vp_in (((((((v7 - v7 / (4 : Int32) * (4 : Int32)) * v3) + v9) - (I uE v8.toNatClampNeg)) * (1000 : Int32)) + v10) - (I uC v8.toNatClampNeg)) 484000 := vi_of (i_sub (i_add (i_mul (i_sub (i_add (i_mul (i_rem rfl (show (4 : Int32).toInt = 4 from rfl) (by omega) (by omega)) (show v3.toInt = 121 by omega) (by omega) (by omega)) rfl (by omega) (by omega)) rfl (by omega) (by omega)) (show (1000 : Int32).toInt = 1000 from rfl) (by omega) (by omega)) rfl (by omega) (by omega)) rfl (by omega) (by omega)) (by omega) (by omega)
      refine ⟨o47, ?_⟩
      have o48 : vp_in (((((v5 - v5 / (4 : Int32) * (4 : Int32)) * v3) + v9) * (1000 : Int32)) + v10) 484000 := vi_of (i_add (i_mul (i_add (i_mul (i_rem rfl (show (4 : Int32).toInt = 4 from rfl) (by omega) (by omega)) (show v3.toInt = 121 by omega) (by omega) (by omega)) rfl (by omega) (by omega)) (show (1000 : Int32).toInt = 1000 from rfl) (by omega) (by omega)) rfl (by omega) (by omega)) (by omega) (by omega)
      refine ⟨o48, ?_⟩
      intro I49 eI49
      try (have t50 : ((I b39 (((((v5 - v5 / (4 : Int32) * (4 : Int32)) * v3) + v9) * (1000 : Int32)) + v10).toNatClampNeg) + (I b39 (((((((v7 - v7 / (4 : Int32) * (4 : Int32)) * v3) + v9) - (I uE v8.toNatClampNeg)) * (1000 : Int32)) + v10) - (I uC v8.toNatClampNeg)).toNatClampNeg)).toInt = ((I b39 (((((v5 - v5 / (4 : Int32) * (4 : Int32)) * v3) + v9) * (1000 : Int32)) + v10).toNatClampNeg).toInt + (I b39 (((((((v7 - v7 / (4 : Int32) * (4 : Int32)) * v3) + v9) - (I uE v8.toNatClampNeg)) * (1000 : Int32)) + v10) - (I uC v8.toNatClampNeg)).toNatClampNeg).toInt) := (i_add rfl rfl (by omega) (by omega)))
      have w_I49 : WD Z I49 := by rw [eI49]; exact WD_putA w_I 12 45 kv0 eb39 kb39 rfl rfl (by decide) trivial
      have f_I49 : FR [(12, 45)] Z I Z I49 := by rw [eI49]; exact FR_upA w_I.2.1 kv0 eb39 kb39 rfl rfl List.mem_cons_self
      have q_I49 : FR Ws_X12_countWays Z0 I0 Z I49 := q_I.trans w0.1 w0.2.1 (f_I49.mono (by decide))
      have ao_I49_uC : I49 uC = I uC := f_I49.2.2.2 v0 12 37 uC kv0 huC_1 (by rw [kuC.2]; rfl) rfl (by decide)
      have ao_I49_uE : I49 uE = I uE := f_I49.2.2.2 v0 12 38 uE kv0 huE_1 (by rw [kuE.2]; rfl) rfl (by decide)
      have u51 : (I49 uC (v8.toNatClampNeg)).toInt = (I uC (v8.toNatClampNeg)).toInt := by rw [f_I49.2.2.2 v0 12 37 uC kv0 huC_1 (by rw [kuC.2]; rfl) rfl (by decide)]
      have u52 : (I49 uE (v8.toNatClampNeg)).toInt = (I uE (v8.toNatClampNeg)).toInt := by rw [f_I49.2.2.2 v0 12 38 uE kv0 huE_1 (by rw [kuE.2]; rfl) rfl (by decide)]
      have u53 : (I49 v0 0).toInt = (I v0 0).toInt := by rw [f_I49.2.2.1 v0 12 0 kv0 (by decide) (by decide)]
      intro x54 ex54
      have rx54 := i_rng x54
      first | (have tx54 : x54.toInt = v10.toInt + (1) := by (rw [ex54]; exact (i_add rfl (show (1 : Int32).toInt = 1 from rfl) (by omega) (by omega)))) | skip
      exact ih x54 Z I49 L w_I49 bd_Z q_I49 cp_Z   (by refine ⟨?_, ?_⟩; (omega); (refine MVB.rew (by omega) (MVB.same (fun q _ => congrFun ao_I49_uC q) (fun q _ => congrFun ao_I49_uE q) li1))) (by omega) (by omega) (by omega) (by omega)
set_option maxHeartbeats 4000000 in
set_option maxRecDepth 100000 in
theorem l_X12_countWays_L221 {B : Nat × Nat} {T : Nat} {Z0 : jZ} {I0 : jI} {Q : Int32 → jZ → jI → jL → Prop} (w0 : WD Z0 I0) (v0 : Nat) (v1 : Int32) (v2 : Int32) (kv0 : jk Z0 v0 12) (uC : Nat) (huC : jr Z0 v0 37 = some uC) (uE : Nat) (huE : jr Z0 v0 38 = some uE) (p0 : 0 ≤ v1.toInt ∧ v1.toInt ≤ 5 ∧ 0 ≤ v2.toInt ∧ v2.toInt ≤ 999) (v3 : Int32) (v4 : Int32) (v5 : Int32) (v6 : Int32) (v7 : Int32) (v8 : Int32) (hQ : ∀ (r : Int32) (Z' : jZ) (I' : jI) (L' : jL), WD Z' I' → BUD B Z' T → FR Ws_X12_countWays Z0 I0 Z' I' → CP Z0 Z' → Q r Z' I' L') {K90 : Nat → Int32 → Int32 → Int32 → Int32 → jZ → jI → jL → Prop} {N90 : Int} (hK90 : ∀ (v4 : Int32) (Z : jZ) (I : jI) (L : jL), WD Z I → BUD B Z T → FR Ws_X12_countWays Z0 I0 Z I → CP Z0 Z →   ((0 ≤ v1.toInt ∧ v1.toInt ≤ 5 ∧ 0 ≤ v2.toInt ∧ v2.toInt ≤ 999 ∧ v3.toInt = 121 ∧ 0 ≤ v4.toInt ∧ v4.toInt ≤ 24) ∧ MVB (3 * ((I v0 0).toInt + 1)) (I v0 0).toInt (I uC) (I uE)) → 24 - v4.toInt < N90 → K90 v0 v1 v2 v3 v4 Z I L) {K165 : Nat → Int32 → Int32 → Int32 → Int32 → Int32 → Int32 → jZ → jI → jL → Prop} {N165 : Int} (hK165 : ∀ (v6 : Int32) (Z : jZ) (I : jI) (L : jL), WD Z I → BUD B Z T → FR Ws_X12_countWays Z0 I0 Z I → CP Z0 Z →   ((0 ≤ v1.toInt ∧ v1.toInt ≤ 5 ∧ 0 ≤ v2.toInt ∧ v2.toInt ≤ 999 ∧ v3.toInt = 121 ∧ 0 ≤ v4.toInt ∧ v4.toInt ≤ 23 ∧ v5.toInt = v4.toInt + 1 ∧ 1 ≤ v6.toInt ∧ v6.toInt ≤ 4 ∧ v4.toInt < (I v0 0).toInt) ∧ MVB (3 * ((I v0 0).toInt + 1)) (I v0 0).toInt (I uC) (I uE)) → 24 - v4.toInt ≤ N90 → 4 - v6.toInt < N165 → K165 v0 v1 v2 v3 v4 v5 v6 Z I L) : ∀ (n : Nat) (v9 : Int32) (Z : jZ) (I : jI) (L : jL), WD Z I → BUD B Z T → FR Ws_X12_countWays Z0 I0 Z I → CP Z0 Z →   ((0 ≤ v1.toInt ∧ v1.toInt ≤ 5 ∧ 0 ≤ v2.toInt ∧ v2.toInt ≤ 999 ∧ v3.toInt = 121 ∧ 0 ≤ v4.toInt ∧ v4.toInt ≤ 23 ∧ v5.toInt = v4.toInt + 1 ∧ 0 ≤ v7.toInt ∧ v7.toInt ≤ 23 ∧ 1 ≤ v6.toInt ∧ v6.toInt ≤ 3 ∧ 0 ≤ v8.toInt ∧ v8.toInt ≤ 74 ∧ 0 ≤ (I uC (v8.toNatClampNeg)).toInt ∧ (I uC (v8.toNatClampNeg)).toInt ≤ 297 ∧ 0 ≤ (I uE (v8.toNatClampNeg)).toInt ∧ (I uE (v8.toNatClampNeg)).toInt ≤ 999 ∧ 0 ≤ v9.toInt ∧ (I uE (v8.toNatClampNeg)).toInt ≤ v9.toInt ∧ v9.toInt ≤ 1000 ∧ v4.toInt < (I v0 0).toInt) ∧ MVB (3 * ((I v0 0).toInt + 1)) (I v0 0).toInt (I uC) (I uE)) → 24 - v4.toInt ≤ N90 → 4 - v6.toInt ≤ N165 → 1000 - v9.toInt < (n : Int) → f_X12_countWays_L221 B K90 K165 Q n v0 v1 v2 v3 v4 v5 v6 v7 v8 v9 Z I L := by
  intro n
  induction n with
  | zero =>
    intro v9 Z I L w_I bd_Z q_I cp_Z   li hm90 hm165 me
    exfalso
    omega
  | succ n ih =>
    intro v9 Z I L w_I bd_Z q_I cp_Z   li hm90 hm165 me
    unfold f_X12_countWays_L221
    have rv9 := i_rng v9
    have rv3 := i_rng v3
    have rv4 := i_rng v4
    have rv5 := i_rng v5
    have rv6 := i_rng v6
    have rv7 := i_rng v7
    have rv8 := i_rng v8
    have rv1 := i_rng v1
    have rv2 := i_rng v2
    obtain ⟨li0, li1⟩ := li
    have kv0_0 := kv0
    have kv0 := (q_I.1 _ _ kv0).1
    have t55 : 0 ≤ (I v0 0).toInt ∧ (I v0 0).toInt ≤ 24 := w_I.fld 12 0 kv0 (by decide)
    have huC_1 : jr Z v0 37 = some uC := (q_I.2.1 v0 12 37 kv0_0 (by decide) (by decide)).trans huC
    have luC : jlen Z uC = 75 := by obtain ⟨b9, e9, -, l9⟩ := sh_f w_I.1 kv0 (j := 37) (k := 14) (m := 75) rfl; cases huC_1.symm.trans e9; exact l9
    have kuC : jk Z uC 14 := by obtain ⟨b9, e9, k9, -⟩ := sh_f w_I.1 kv0 (j := 37) (k := 14) (m := 75) rfl; cases huC_1.symm.trans e9; exact k9
    have huE_1 : jr Z v0 38 = some uE := (q_I.2.1 v0 12 38 kv0_0 (by decide) (by decide)).trans huE
    have luE : jlen Z uE = 75 := by obtain ⟨b9, e9, -, l9⟩ := sh_f w_I.1 kv0 (j := 38) (k := 14) (m := 75) rfl; cases huE_1.symm.trans e9; exact l9
    have kuE : jk Z uE 14 := by obtain ⟨b9, e9, k9, -⟩ := sh_f w_I.1 kv0 (j := 38) (k := 14) (m := 75) rfl; cases huE_1.symm.trans e9; exact k9
    have xq_I := q_I.1
    have mv := li1
    intro b56 eb56
    obtain ⟨x57, ex57, kb56, lb56⟩ := sh_f w_I.1 kv0 (j := 9) (k := 14) (m := 6) rfl
    cases eb56.symm.trans ex57
    have o58 : vp_in v1 6 := vi_of rfl (by omega) (by omega)
    refine ⟨o58, ?_⟩
    have t59 : 0 ≤ (I b56 v1.toNatClampNeg).toInt ∧ (I b56 v1.toNatClampNeg).toInt ≤ 120 := w_I.arr 12 9 kv0 eb56 kb56 rfl rfl _
    refine ⟨fun c60 => ?_, fun c60 => ?_⟩
    · skip
      first | (have t61 : (I b56 v1.toNatClampNeg).toInt < v9.toInt := (i_lt rfl rfl).mp c60) | (have t61 : (I b56 v1.toNatClampNeg).toInt < v9.toInt := (i_lt rfl rfl).mp c60) | skip
      unfold f_X12_countWays_b320
      intro x62 ex62
      have rx62 := i_rng x62
      first | (have tx62 : x62.toInt = v6.toInt + (1) := by (rw [ex62]; exact (i_add rfl (show (1 : Int32).toInt = 1 from rfl) (by omega) (by omega)))) | skip
      exact hK165 x62 Z I L w_I bd_Z q_I cp_Z   (by refine ⟨?_, ?_⟩; (omega); (refine MVB.rew (by omega) (MVB.same (fun _ _ => rfl) (fun _ _ => rfl) li1))) (by omega) (by omega)
    · skip
      first | (have t63 : ¬ ((I b56 v1.toNatClampNeg).toInt < v9.toInt) := (not_congr (i_lt rfl rfl)).mp c60) | (have t63 : ¬ ((I b56 v1.toNatClampNeg).toInt < v9.toInt) := (not_congr (i_lt rfl rfl)).mp c60) | skip
      intro b64 eb64
      obtain rfl : uC = b64 := Option.some.inj (huC_1.symm.trans eb64)
      have o65 : vp_in v8 75 := vi_of rfl (by omega) (by omega)
      refine ⟨o65, ?_⟩
      intro x66 ex66
      have rx66 := i_rng x66
      first | (have tx66 : x66.toInt = (I uC v8.toNatClampNeg).toInt := by (rw [ex66]; exact rfl)) | (have tx66 : x66.toInt = (I uC v8.toNatClampNeg).toInt := by rw [ex66])
      exact ⟨(1000 - x66.toInt).toNat + 1, l_X12_countWays_L241 w0 v0 v1 v2 kv0_0 uC huC uE huE p0 v3 v4 v5 v6 v7 v8 v9  hQ hK90 hK165 ih  _ x66 Z I L w_I bd_Z q_I cp_Z   (by refine ⟨?_, ?_⟩; (omega); (refine MVB.rew (by omega) (MVB.same (fun _ _ => rfl) (fun _ _ => rfl) li1))) (by omega) (by omega) (by omega) (by omega)⟩
set_option maxHeartbeats 4000000 in
set_option maxRecDepth 100000 in
theorem l_X12_countWays_L165 {B : Nat × Nat} {T : Nat} {Z0 : jZ} {I0 : jI} {Q : Int32 → jZ → jI → jL → Prop} (w0 : WD Z0 I0) (v0 : Nat) (v1 : Int32) (v2 : Int32) (kv0 : jk Z0 v0 12) (uC : Nat) (huC : jr Z0 v0 37 = some uC) (uE : Nat) (huE : jr Z0 v0 38 = some uE) (p0 : 0 ≤ v1.toInt ∧ v1.toInt ≤ 5 ∧ 0 ≤ v2.toInt ∧ v2.toInt ≤ 999) (v3 : Int32) (v4 : Int32) (v5 : Int32) (hQ : ∀ (r : Int32) (Z' : jZ) (I' : jI) (L' : jL), WD Z' I' → BUD B Z' T → FR Ws_X12_countWays Z0 I0 Z' I' → CP Z0 Z' → Q r Z' I' L') {K90 : Nat → Int32 → Int32 → Int32 → Int32 → jZ → jI → jL → Prop} {N90 : Int} (hK90 : ∀ (v4 : Int32) (Z : jZ) (I : jI) (L : jL), WD Z I → BUD B Z T → FR Ws_X12_countWays Z0 I0 Z I → CP Z0 Z →   ((0 ≤ v1.toInt ∧ v1.toInt ≤ 5 ∧ 0 ≤ v2.toInt ∧ v2.toInt ≤ 999 ∧ v3.toInt = 121 ∧ 0 ≤ v4.toInt ∧ v4.toInt ≤ 24) ∧ MVB (3 * ((I v0 0).toInt + 1)) (I v0 0).toInt (I uC) (I uE)) → 24 - v4.toInt < N90 → K90 v0 v1 v2 v3 v4 Z I L) : ∀ (n : Nat) (v6 : Int32) (Z : jZ) (I : jI) (L : jL), WD Z I → BUD B Z T → FR Ws_X12_countWays Z0 I0 Z I → CP Z0 Z →   ((0 ≤ v1.toInt ∧ v1.toInt ≤ 5 ∧ 0 ≤ v2.toInt ∧ v2.toInt ≤ 999 ∧ v3.toInt = 121 ∧ 0 ≤ v4.toInt ∧ v4.toInt ≤ 23 ∧ v5.toInt = v4.toInt + 1 ∧ 1 ≤ v6.toInt ∧ v6.toInt ≤ 4 ∧ v4.toInt < (I v0 0).toInt) ∧ MVB (3 * ((I v0 0).toInt + 1)) (I v0 0).toInt (I uC) (I uE)) → 24 - v4.toInt ≤ N90 → 4 - v6.toInt < (n : Int) → f_X12_countWays_L165 B K90 Q n v0 v1 v2 v3 v4 v5 v6 Z I L := by
  intro n
  induction n with
  | zero =>
    intro v6 Z I L w_I bd_Z q_I cp_Z   li hm90 me
    exfalso
    omega
  | succ n ih =>
    intro v6 Z I L w_I bd_Z q_I cp_Z   li hm90 me
    unfold f_X12_countWays_L165
    have rv6 := i_rng v6
    have rv3 := i_rng v3
    have rv4 := i_rng v4
    have rv5 := i_rng v5
    have rv1 := i_rng v1
    have rv2 := i_rng v2
    obtain ⟨li0, li1⟩ := li
    have kv0_0 := kv0
    have kv0 := (q_I.1 _ _ kv0).1
    have t67 : 0 ≤ (I v0 0).toInt ∧ (I v0 0).toInt ≤ 24 := w_I.fld 12 0 kv0 (by decide)
    have huC_1 : jr Z v0 37 = some uC := (q_I.2.1 v0 12 37 kv0_0 (by decide) (by decide)).trans huC
    have luC : jlen Z uC = 75 := by obtain ⟨b9, e9, -, l9⟩ := sh_f w_I.1 kv0 (j := 37) (k := 14) (m := 75) rfl; cases huC_1.symm.trans e9; exact l9
    have kuC : jk Z uC 14 := by obtain ⟨b9, e9, k9, -⟩ := sh_f w_I.1 kv0 (j := 37) (k := 14) (m := 75) rfl; cases huC_1.symm.trans e9; exact k9
    have huE_1 : jr Z v0 38 = some uE := (q_I.2.1 v0 12 38 kv0_0 (by decide) (by decide)).trans huE
    have luE : jlen Z uE = 75 := by obtain ⟨b9, e9, -, l9⟩ := sh_f w_I.1 kv0 (j := 38) (k := 14) (m := 75) rfl; cases huE_1.symm.trans e9; exact l9
    have kuE : jk Z uE 14 := by obtain ⟨b9, e9, k9, -⟩ := sh_f w_I.1 kv0 (j := 38) (k := 14) (m := 75) rfl; cases huE_1.symm.trans e9; exact k9
    have xq_I := q_I.1
    have mv := li1
    refine ⟨fun c68 => ?_, fun c68 => ?_⟩
    · skip
      first | (have t69 : (3) < v6.toInt := (i_lt (show (3 : Int32).toInt = 3 from rfl) rfl).mp c68) | (have t69 : (3 : Int32).toInt < v6.toInt := (i_lt rfl rfl).mp c68) | skip
      unfold f_X12_countWays_b326
      intro x70 ex70
      have rx70 := i_rng x70
      first | (have tx70 : x70.toInt = v4.toInt + (1) := by (rw [ex70]; exact (i_add rfl (show (1 : Int32).toInt = 1 from rfl) (by omega) (by omega)))) | skip
      exact hK90 x70 Z I L w_I bd_Z q_I cp_Z   (by refine ⟨?_, ?_⟩; (omega); (refine MVB.rew (by omega) (MVB.same (fun _ _ => rfl) (fun _ _ => rfl) li1)))  (by omega)
    · skip
      first | (have t71 : ¬ ((3) < v6.toInt) := (not_congr (i_lt (show (3 : Int32).toInt = 3 from rfl) rfl)).mp c68) | (have t71 : ¬ ((3 : Int32).toInt < v6.toInt) := (not_congr (i_lt rfl rfl)).mp c68) | skip
      refine ⟨fun c72 => ?_, fun c72 => ?_⟩
      · skip
        first | (have t73 : v5.toInt < v6.toInt := (i_lt rfl rfl).mp c72) | (have t73 : v5.toInt < v6.toInt := (i_lt rfl rfl).mp c72) | skip
        unfold f_X12_countWays_b326
        intro x74 ex74
        have rx74 := i_rng x74
        first | (have tx74 : x74.toInt = v4.toInt + (1) := by (rw [ex74]; exact (i_add rfl (show (1 : Int32).toInt = 1 from rfl) (by omega) (by omega)))) | skip
        exact hK90 x74 Z I L w_I bd_Z q_I cp_Z   (by refine ⟨?_, ?_⟩; (omega); (refine MVB.rew (by omega) (MVB.same (fun _ _ => rfl) (fun _ _ => rfl) li1)))  (by omega)
      · skip
        first | (have t75 : ¬ (v5.toInt < v6.toInt) := (not_congr (i_lt rfl rfl)).mp c72) | (have t75 : ¬ (v5.toInt < v6.toInt) := (not_congr (i_lt rfl rfl)).mp c72) | skip
        intro x76 ex76
        have rx76 := i_rng x76
        first | (have tx76 : x76.toInt = (v5.toInt - v6.toInt) := by (rw [ex76]; exact (i_sub rfl rfl (by omega) (by omega)))) | (have tx76 : x76.toInt = (v5 - v6).toInt := by rw [ex76])
        intro x77 ex77
        have rx77 := i_rng x77
        first | (have tx77 : x77.toInt = ((((3) * x76.toInt) + v6.toInt) - (1)) := by (rw [ex77]; exact (i_sub (i_add (i_mul (show (3 : Int32).toInt = 3 from rfl) rfl (by omega) (by omega)) rfl (by omega) (by omega)) (show (1 : Int32).toInt = 1 from rfl) (by omega) (by omega)))) | (have tx77 : x77.toInt = ((((3 : Int32) * x76) + v6) - (1 : Int32)).toInt := by rw [ex77])
        intro b78 eb78
        obtain rfl : uC = b78 := Option.some.inj (huC_1.symm.trans eb78)
        have hm := MVB.at mv (x := x77) rfl (by omega) (by omega)
        have o79 : vp_in x77 75 := vi_of rfl (by omega) (by omega)
        refine ⟨o79, ?_⟩
        refine ⟨fun c80 => ?_, fun c80 => ?_⟩
        · skip
          first | (have t81 : ¬ ((I uC x77.toNatClampNeg).toInt = (1000000000)) := (not_congr (i_eq rfl (show (1000000000 : Int32).toInt = 1000000000 from rfl))).mp c80) | (have t81 : ¬ ((I uC x77.toNatClampNeg).toInt = (1000000000 : Int32).toInt) := (not_congr (i_eq rfl rfl)).mp c80) | skip
          intro b82 eb82
          obtain rfl : uE = b82 := Option.some.inj (huE_1.symm.trans eb82)
          have o83 : vp_in x77 75 := vi_of rfl (by omega) (by omega)
          refine ⟨o83, ?_⟩
          intro x84 ex84
          have rx84 := i_rng x84
          first | (have tx84 : x84.toInt = (I uE x77.toNatClampNeg).toInt := by (rw [ex84]; exact rfl)) | (have tx84 : x84.toInt = (I uE x77.toNatClampNeg).toInt := by rw [ex84])
          exact ⟨(1000 - x84.toInt).toNat + 1, l_X12_countWays_L221 w0 v0 v1 v2 kv0_0 uC huC uE huE p0 v3 v4 v5 v6 x76 x77  hQ hK90 ih  _ x84 Z I L w_I bd_Z q_I cp_Z   (by refine ⟨?_, ?_⟩; (omega); (refine MVB.rew (by omega) (MVB.same (fun _ _ => rfl) (fun _ _ => rfl) li1))) (by omega) (by omega) (by omega)⟩
        · skip
          first | (have t85 : (I uC x77.toNatClampNeg).toInt = (1000000000) := (i_eq rfl (show (1000000000 : Int32).toInt = 1000000000 from rfl)).mp c80) | (have t85 : (I uC x77.toNatClampNeg).toInt = (1000000000 : Int32).toInt := (i_eq rfl rfl).mp c80) | skip
          unfold f_X12_countWays_b320
          intro x86 ex86
          have rx86 := i_rng x86
          first | (have tx86 : x86.toInt = v6.toInt + (1) := by (rw [ex86]; exact (i_add rfl (show (1 : Int32).toInt = 1 from rfl) (by omega) (by omega)))) | skip
          exact ih x86 Z I L w_I bd_Z q_I cp_Z   (by refine ⟨?_, ?_⟩; (omega); (refine MVB.rew (by omega) (MVB.same (fun _ _ => rfl) (fun _ _ => rfl) li1))) (by omega) (by omega)
set_option maxHeartbeats 4000000 in
set_option maxRecDepth 100000 in
theorem l_X12_countWays_L122 {B : Nat × Nat} {T : Nat} {Z0 : jZ} {I0 : jI} {Q : Int32 → jZ → jI → jL → Prop} (w0 : WD Z0 I0) (v0 : Nat) (v1 : Int32) (v2 : Int32) (kv0 : jk Z0 v0 12) (uC : Nat) (huC : jr Z0 v0 37 = some uC) (uE : Nat) (huE : jr Z0 v0 38 = some uE) (p0 : 0 ≤ v1.toInt ∧ v1.toInt ≤ 5 ∧ 0 ≤ v2.toInt ∧ v2.toInt ≤ 999) (v3 : Int32) (v4 : Int32) (v5 : Int32) (v6 : Int32) (hQ : ∀ (r : Int32) (Z' : jZ) (I' : jI) (L' : jL), WD Z' I' → BUD B Z' T → FR Ws_X12_countWays Z0 I0 Z' I' → CP Z0 Z' → Q r Z' I' L') {K90 : Nat → Int32 → Int32 → Int32 → Int32 → jZ → jI → jL → Prop} {N90 : Int} (hK90 : ∀ (v4 : Int32) (Z : jZ) (I : jI) (L : jL), WD Z I → BUD B Z T → FR Ws_X12_countWays Z0 I0 Z I → CP Z0 Z →   ((0 ≤ v1.toInt ∧ v1.toInt ≤ 5 ∧ 0 ≤ v2.toInt ∧ v2.toInt ≤ 999 ∧ v3.toInt = 121 ∧ 0 ≤ v4.toInt ∧ v4.toInt ≤ 24) ∧ MVB (3 * ((I v0 0).toInt + 1)) (I v0 0).toInt (I uC) (I uE)) → 24 - v4.toInt < N90 → K90 v0 v1 v2 v3 v4 Z I L) {K108 : Nat → Int32 → Int32 → Int32 → Int32 → Int32 → Int32 → jZ → jI → jL → Prop} {N108 : Int} (hK108 : ∀ (v6 : Int32) (Z : jZ) (I : jI) (L : jL), WD Z I → BUD B Z T → FR Ws_X12_countWays Z0 I0 Z I → CP Z0 Z →   ((0 ≤ v1.toInt ∧ v1.toInt ≤ 5 ∧ 0 ≤ v2.toInt ∧ v2.toInt ≤ 999 ∧ v3.toInt = 121 ∧ 0 ≤ v4.toInt ∧ v4.toInt ≤ 23 ∧ v5.toInt = v4.toInt + 1 ∧ 0 ≤ v6.toInt ∧ v6.toInt ≤ 121 ∧ v4.toInt < (I v0 0).toInt) ∧ MVB (3 * ((I v0 0).toInt + 1)) (I v0 0).toInt (I uC) (I uE)) → 24 - v4.toInt ≤ N90 → 121 - v6.toInt < N108 → K108 v0 v1 v2 v3 v4 v5 v6 Z I L) : ∀ (n : Nat) (v7 : Int32) (Z : jZ) (I : jI) (L : jL), WD Z I → BUD B Z T → FR Ws_X12_countWays Z0 I0 Z I → CP Z0 Z →   ((0 ≤ v1.toInt ∧ v1.toInt ≤ 5 ∧ 0 ≤ v2.toInt ∧ v2.toInt ≤ 999 ∧ v3.toInt = 121 ∧ 0 ≤ v4.toInt ∧ v4.toInt ≤ 23 ∧ v5.toInt = v4.toInt + 1 ∧ 0 ≤ v6.toInt ∧ v6.toInt ≤ 120 ∧ 0 ≤ v7.toInt ∧ v7.toInt ≤ 1000 ∧ v4.toInt < (I v0 0).toInt) ∧ MVB (3 * ((I v0 0).toInt + 1)) (I v0 0).toInt (I uC) (I uE)) → 24 - v4.toInt ≤ N90 → 121 - v6.toInt ≤ N108 → 1000 - v7.toInt < (n : Int) → f_X12_countWays_L122 B K90 K108 Q n v0 v1 v2 v3 v4 v5 v6 v7 Z I L := by
  intro n
  induction n with
  | zero =>
    intro v7 Z I L w_I bd_Z q_I cp_Z   li hm90 hm108 me
    exfalso
    omega
  | succ n ih =>
    intro v7 Z I L w_I bd_Z q_I cp_Z   li hm90 hm108 me
    unfold f_X12_countWays_L122
    have rv7 := i_rng v7
    have rv3 := i_rng v3
    have rv4 := i_rng v4
    have rv5 := i_rng v5
    have rv6 := i_rng v6
    have rv1 := i_rng v1
    have rv2 := i_rng v2
    obtain ⟨li0, li1⟩ := li
    have kv0_0 := kv0
    have kv0 := (q_I.1 _ _ kv0).1
    have t87 : 0 ≤ (I v0 0).toInt ∧ (I v0 0).toInt ≤ 24 := w_I.fld 12 0 kv0 (by decide)
    have huC_1 : jr Z v0 37 = some uC := (q_I.2.1 v0 12 37 kv0_0 (by decide) (by decide)).trans huC
    have luC : jlen Z uC = 75 := by obtain ⟨b9, e9, -, l9⟩ := sh_f w_I.1 kv0 (j := 37) (k := 14) (m := 75) rfl; cases huC_1.symm.trans e9; exact l9
    have kuC : jk Z uC 14 := by obtain ⟨b9, e9, k9, -⟩ := sh_f w_I.1 kv0 (j := 37) (k := 14) (m := 75) rfl; cases huC_1.symm.trans e9; exact k9
    have huE_1 : jr Z v0 38 = some uE := (q_I.2.1 v0 12 38 kv0_0 (by decide) (by decide)).trans huE
    have luE : jlen Z uE = 75 := by obtain ⟨b9, e9, -, l9⟩ := sh_f w_I.1 kv0 (j := 38) (k := 14) (m := 75) rfl; cases huE_1.symm.trans e9; exact l9
    have kuE : jk Z uE 14 := by obtain ⟨b9, e9, k9, -⟩ := sh_f w_I.1 kv0 (j := 38) (k := 14) (m := 75) rfl; cases huE_1.symm.trans e9; exact k9
    have xq_I := q_I.1
    have mv := li1
    refine ⟨fun c88 => ?_, fun c88 => ?_⟩
    · skip
      first | (have t89 : v2.toInt < v7.toInt := (i_lt rfl rfl).mp c88) | (have t89 : v2.toInt < v7.toInt := (i_lt rfl rfl).mp c88) | skip
      intro x90 ex90
      have rx90 := i_rng x90
      first | (have tx90 : x90.toInt = v6.toInt + (1) := by (rw [ex90]; exact (i_add rfl (show (1 : Int32).toInt = 1 from rfl) (by omega) (by omega)))) | skip
      exact hK108 x90 Z I L w_I bd_Z q_I cp_Z   (by refine ⟨?_, ?_⟩; (omega); (refine MVB.rew (by omega) (MVB.same (fun _ _ => rfl) (fun _ _ => rfl) li1))) (by omega) (by omega)
    · skip
      first | (have t91 : ¬ (v2.toInt < v7.toInt) := (not_congr (i_lt rfl rfl)).mp c88) | (have t91 : ¬ (v2.toInt < v7.toInt) := (not_congr (i_lt rfl rfl)).mp c88) | skip
      intro b92 eb92
      obtain ⟨x93, ex93, kb92, lb92⟩ := sh_f w_I.1 kv0 (j := 45) (k := 14) (m := 484000) rfl
      cases eb92.symm.trans ex93
      have o94 : vp_in (((((v5 - v5 / (4 : Int32) * (4 : Int32)) * v3) + v6) * (1000 : Int32)) + v7) 484000 := vi_of (i_add (i_mul (i_add (i_mul (i_rem rfl (show (4 : Int32).toInt = 4 from rfl) (by omega) (by omega)) (show v3.toInt = 121 by omega) (by omega) (by omega)) rfl (by omega) (by omega)) (show (1000 : Int32).toInt = 1000 from rfl) (by omega) (by omega)) rfl (by omega) (by omega)) (by omega) (by omega)
      refine ⟨o94, ?_⟩
      intro I95 eI95
      have t96 : (0 : Int32).toInt = 0 := rfl
      have w_I95 : WD Z I95 := by rw [eI95]; exact WD_putA w_I 12 45 kv0 eb92 kb92 rfl rfl (by decide) trivial
      have f_I95 : FR [(12, 45)] Z I Z I95 := by rw [eI95]; exact FR_upA w_I.2.1 kv0 eb92 kb92 rfl rfl List.mem_cons_self
      have q_I95 : FR Ws_X12_countWays Z0 I0 Z I95 := q_I.trans w0.1 w0.2.1 (f_I95.mono (by decide))
      have ao_I95_uC : I95 uC = I uC := f_I95.2.2.2 v0 12 37 uC kv0 huC_1 (by rw [kuC.2]; rfl) rfl (by decide)
      have ao_I95_uE : I95 uE = I uE := f_I95.2.2.2 v0 12 38 uE kv0 huE_1 (by rw [kuE.2]; rfl) rfl (by decide)
      have u97 : (I95 v0 0).toInt = (I v0 0).toInt := by rw [f_I95.2.2.1 v0 12 0 kv0 (by decide) (by decide)]
      intro x98 ex98
      have rx98 := i_rng x98
      first | (have tx98 : x98.toInt = v7.toInt + (1) := by (rw [ex98]; exact (i_add rfl (show (1 : Int32).toInt = 1 from rfl) (by omega) (by omega)))) | skip
      exact ih x98 Z I95 L w_I95 bd_Z q_I95 cp_Z   (by refine ⟨?_, ?_⟩; (omega); (refine MVB.rew (by omega) (MVB.same (fun q _ => congrFun ao_I95_uC q) (fun q _ => congrFun ao_I95_uE q) li1))) (by omega) (by omega) (by omega)
set_option maxHeartbeats 4000000 in
set_option maxRecDepth 100000 in
theorem l_X12_countWays_L108 {B : Nat × Nat} {T : Nat} {Z0 : jZ} {I0 : jI} {Q : Int32 → jZ → jI → jL → Prop} (w0 : WD Z0 I0) (v0 : Nat) (v1 : Int32) (v2 : Int32) (kv0 : jk Z0 v0 12) (uC : Nat) (huC : jr Z0 v0 37 = some uC) (uE : Nat) (huE : jr Z0 v0 38 = some uE) (p0 : 0 ≤ v1.toInt ∧ v1.toInt ≤ 5 ∧ 0 ≤ v2.toInt ∧ v2.toInt ≤ 999) (v3 : Int32) (v4 : Int32) (v5 : Int32) (hQ : ∀ (r : Int32) (Z' : jZ) (I' : jI) (L' : jL), WD Z' I' → BUD B Z' T → FR Ws_X12_countWays Z0 I0 Z' I' → CP Z0 Z' → Q r Z' I' L') {K90 : Nat → Int32 → Int32 → Int32 → Int32 → jZ → jI → jL → Prop} {N90 : Int} (hK90 : ∀ (v4 : Int32) (Z : jZ) (I : jI) (L : jL), WD Z I → BUD B Z T → FR Ws_X12_countWays Z0 I0 Z I → CP Z0 Z →   ((0 ≤ v1.toInt ∧ v1.toInt ≤ 5 ∧ 0 ≤ v2.toInt ∧ v2.toInt ≤ 999 ∧ v3.toInt = 121 ∧ 0 ≤ v4.toInt ∧ v4.toInt ≤ 24) ∧ MVB (3 * ((I v0 0).toInt + 1)) (I v0 0).toInt (I uC) (I uE)) → 24 - v4.toInt < N90 → K90 v0 v1 v2 v3 v4 Z I L) : ∀ (n : Nat) (v6 : Int32) (Z : jZ) (I : jI) (L : jL), WD Z I → BUD B Z T → FR Ws_X12_countWays Z0 I0 Z I → CP Z0 Z →   ((0 ≤ v1.toInt ∧ v1.toInt ≤ 5 ∧ 0 ≤ v2.toInt ∧ v2.toInt ≤ 999 ∧ v3.toInt = 121 ∧ 0 ≤ v4.toInt ∧ v4.toInt ≤ 23 ∧ v5.toInt = v4.toInt + 1 ∧ 0 ≤ v6.toInt ∧ v6.toInt ≤ 121 ∧ v4.toInt < (I v0 0).toInt) ∧ MVB (3 * ((I v0 0).toInt + 1)) (I v0 0).toInt (I uC) (I uE)) → 24 - v4.toInt ≤ N90 → 121 - v6.toInt < (n : Int) → f_X12_countWays_L108 B K90 Q n v0 v1 v2 v3 v4 v5 v6 Z I L := by
  intro n
  induction n with
  | zero =>
    intro v6 Z I L w_I bd_Z q_I cp_Z   li hm90 me
    exfalso
    omega
  | succ n ih =>
    intro v6 Z I L w_I bd_Z q_I cp_Z   li hm90 me
    unfold f_X12_countWays_L108
    have rv6 := i_rng v6
    have rv3 := i_rng v3
    have rv4 := i_rng v4
    have rv5 := i_rng v5
    have rv1 := i_rng v1
    have rv2 := i_rng v2
    obtain ⟨li0, li1⟩ := li
    have kv0_0 := kv0
    have kv0 := (q_I.1 _ _ kv0).1
    have t99 : 0 ≤ (I v0 0).toInt ∧ (I v0 0).toInt ≤ 24 := w_I.fld 12 0 kv0 (by decide)
    have huC_1 : jr Z v0 37 = some uC := (q_I.2.1 v0 12 37 kv0_0 (by decide) (by decide)).trans huC
    have luC : jlen Z uC = 75 := by obtain ⟨b9, e9, -, l9⟩ := sh_f w_I.1 kv0 (j := 37) (k := 14) (m := 75) rfl; cases huC_1.symm.trans e9; exact l9
    have kuC : jk Z uC 14 := by obtain ⟨b9, e9, k9, -⟩ := sh_f w_I.1 kv0 (j := 37) (k := 14) (m := 75) rfl; cases huC_1.symm.trans e9; exact k9
    have huE_1 : jr Z v0 38 = some uE := (q_I.2.1 v0 12 38 kv0_0 (by decide) (by decide)).trans huE
    have luE : jlen Z uE = 75 := by obtain ⟨b9, e9, -, l9⟩ := sh_f w_I.1 kv0 (j := 38) (k := 14) (m := 75) rfl; cases huE_1.symm.trans e9; exact l9
    have kuE : jk Z uE 14 := by obtain ⟨b9, e9, k9, -⟩ := sh_f w_I.1 kv0 (j := 38) (k := 14) (m := 75) rfl; cases huE_1.symm.trans e9; exact k9
    have xq_I := q_I.1
    have mv := li1
    intro b100 eb100
    obtain ⟨x101, ex101, kb100, lb100⟩ := sh_f w_I.1 kv0 (j := 9) (k := 14) (m := 6) rfl
    cases eb100.symm.trans ex101
    have o102 : vp_in v1 6 := vi_of rfl (by omega) (by omega)
    refine ⟨o102, ?_⟩
    have t103 : 0 ≤ (I b100 v1.toNatClampNeg).toInt ∧ (I b100 v1.toNatClampNeg).toInt ≤ 120 := w_I.arr 12 9 kv0 eb100 kb100 rfl rfl _
    refine ⟨fun c104 => ?_, fun c104 => ?_⟩
    · skip
      first | (have t105 : (I b100 v1.toNatClampNeg).toInt < v6.toInt := (i_lt rfl rfl).mp c104) | (have t105 : (I b100 v1.toNatClampNeg).toInt < v6.toInt := (i_lt rfl rfl).mp c104) | skip
      have t106 : (1 : Int32).toInt = 1 := rfl
      exact ⟨(4 - (1 : Int32).toInt).toNat + 1, l_X12_countWays_L165 w0 v0 v1 v2 kv0_0 uC huC uE huE p0 v3 v4 v5  hQ hK90  _ (1 : Int32) Z I L w_I bd_Z q_I cp_Z   (by refine ⟨?_, ?_⟩; (omega); (refine MVB.rew (by omega) (MVB.same (fun _ _ => rfl) (fun _ _ => rfl) li1))) (by omega) (by omega)⟩
    · skip
      first | (have t107 : ¬ ((I b100 v1.toNatClampNeg).toInt < v6.toInt) := (not_congr (i_lt rfl rfl)).mp c104) | (have t107 : ¬ ((I b100 v1.toNatClampNeg).toInt < v6.toInt) := (not_congr (i_lt rfl rfl)).mp c104) | skip
      have t108 : (0 : Int32).toInt = 0 := rfl
      exact ⟨(1000 - (0 : Int32).toInt).toNat + 1, l_X12_countWays_L122 w0 v0 v1 v2 kv0_0 uC huC uE huE p0 v3 v4 v5 v6  hQ hK90 ih  _ (0 : Int32) Z I L w_I bd_Z q_I cp_Z   (by refine ⟨?_, ?_⟩; (omega); (refine MVB.rew (by omega) (MVB.same (fun _ _ => rfl) (fun _ _ => rfl) li1))) (by omega) (by omega) (by omega)⟩
set_option maxHeartbeats 4000000 in
set_option maxRecDepth 100000 in
theorem l_X12_countWays_L90 {B : Nat × Nat} {T : Nat} {Z0 : jZ} {I0 : jI} {Q : Int32 → jZ → jI → jL → Prop} (w0 : WD Z0 I0) (v0 : Nat) (v1 : Int32) (v2 : Int32) (kv0 : jk Z0 v0 12) (uC : Nat) (huC : jr Z0 v0 37 = some uC) (uE : Nat) (huE : jr Z0 v0 38 = some uE) (p0 : 0 ≤ v1.toInt ∧ v1.toInt ≤ 5 ∧ 0 ≤ v2.toInt ∧ v2.toInt ≤ 999) (v3 : Int32) (hQ : ∀ (r : Int32) (Z' : jZ) (I' : jI) (L' : jL), WD Z' I' → BUD B Z' T → FR Ws_X12_countWays Z0 I0 Z' I' → CP Z0 Z' → Q r Z' I' L') : ∀ (n : Nat) (v4 : Int32) (Z : jZ) (I : jI) (L : jL), WD Z I → BUD B Z T → FR Ws_X12_countWays Z0 I0 Z I → CP Z0 Z →   ((0 ≤ v1.toInt ∧ v1.toInt ≤ 5 ∧ 0 ≤ v2.toInt ∧ v2.toInt ≤ 999 ∧ v3.toInt = 121 ∧ 0 ≤ v4.toInt ∧ v4.toInt ≤ 24) ∧ MVB (3 * ((I v0 0).toInt + 1)) (I v0 0).toInt (I uC) (I uE)) → 24 - v4.toInt < (n : Int) → f_X12_countWays_L90 B  Q n v0 v1 v2 v3 v4 Z I L := by
  intro n
  induction n with
  | zero =>
    intro v4 Z I L w_I bd_Z q_I cp_Z   li  me
    exfalso
    omega
  | succ n ih =>
    intro v4 Z I L w_I bd_Z q_I cp_Z   li  me
    unfold f_X12_countWays_L90
    have rv4 := i_rng v4
    have rv3 := i_rng v3
    have rv1 := i_rng v1
    have rv2 := i_rng v2
    obtain ⟨li0, li1⟩ := li
    have kv0_0 := kv0
    have kv0 := (q_I.1 _ _ kv0).1
    have t109 : 0 ≤ (I v0 0).toInt ∧ (I v0 0).toInt ≤ 24 := w_I.fld 12 0 kv0 (by decide)
    have huC_1 : jr Z v0 37 = some uC := (q_I.2.1 v0 12 37 kv0_0 (by decide) (by decide)).trans huC
    have luC : jlen Z uC = 75 := by obtain ⟨b9, e9, -, l9⟩ := sh_f w_I.1 kv0 (j := 37) (k := 14) (m := 75) rfl; cases huC_1.symm.trans e9; exact l9
    have kuC : jk Z uC 14 := by obtain ⟨b9, e9, k9, -⟩ := sh_f w_I.1 kv0 (j := 37) (k := 14) (m := 75) rfl; cases huC_1.symm.trans e9; exact k9
    have huE_1 : jr Z v0 38 = some uE := (q_I.2.1 v0 12 38 kv0_0 (by decide) (by decide)).trans huE
    have luE : jlen Z uE = 75 := by obtain ⟨b9, e9, -, l9⟩ := sh_f w_I.1 kv0 (j := 38) (k := 14) (m := 75) rfl; cases huE_1.symm.trans e9; exact l9
    have kuE : jk Z uE 14 := by obtain ⟨b9, e9, k9, -⟩ := sh_f w_I.1 kv0 (j := 38) (k := 14) (m := 75) rfl; cases huE_1.symm.trans e9; exact k9
    have xq_I := q_I.1
    have mv := li1
    have t111 : 0 ≤ (I v0 0).toInt ∧ (I v0 0).toInt ≤ 24 := w_I.fld 12 0 kv0 (by decide)
    refine ⟨fun c112 => ?_, fun c112 => ?_⟩
    · skip
      first | (have t113 : (I v0 0).toInt ≤ v4.toInt := (i_le rfl rfl).mp c112) | (have t113 : (I v0 0).toInt ≤ v4.toInt := (i_le rfl rfl).mp c112) | skip
      have t114 : (0 : Int32).toInt = 0 := rfl
      have t115 : (0 : Int32).toInt = 0 := rfl
      exact ⟨(121 - (0 : Int32).toInt).toNat + 1, l_X12_countWays_L338 w0 v0 v1 v2 kv0_0 uC huC uE huE p0 v3  hQ   _ (0 : Int32) (0 : Int32) Z I L w_I bd_Z q_I cp_Z   (by omega)  (by omega)⟩
    · skip
      first | (have t116 : ¬ ((I v0 0).toInt ≤ v4.toInt) := (not_congr (i_le rfl rfl)).mp c112) | (have t116 : ¬ ((I v0 0).toInt ≤ v4.toInt) := (not_congr (i_le rfl rfl)).mp c112) | skip
      intro x117 ex117
      have rx117 := i_rng x117
      first | (have tx117 : x117.toInt = (v4.toInt + (1)) := by (rw [ex117]; exact (i_add rfl (show (1 : Int32).toInt = 1 from rfl) (by omega) (by omega)))) | (have tx117 : x117.toInt = (v4 + (1 : Int32)).toInt := by rw [ex117])
      have t118 : (0 : Int32).toInt = 0 := rfl
      exact ⟨(121 - (0 : Int32).toInt).toNat + 1, l_X12_countWays_L108 w0 v0 v1 v2 kv0_0 uC huC uE huE p0 v3 v4 x117  hQ ih  _ (0 : Int32) Z I L w_I bd_Z q_I cp_Z   (by refine ⟨?_, ?_⟩; (omega); (refine MVB.rew (by omega) (MVB.same (fun _ _ => rfl) (fun _ _ => rfl) li1))) (by omega) (by omega)⟩
set_option maxHeartbeats 4000000 in
set_option maxRecDepth 100000 in
theorem l_X12_countWays_L47 {B : Nat × Nat} {T : Nat} {Z0 : jZ} {I0 : jI} {Q : Int32 → jZ → jI → jL → Prop} (w0 : WD Z0 I0) (v0 : Nat) (v1 : Int32) (v2 : Int32) (kv0 : jk Z0 v0 12) (uC : Nat) (huC : jr Z0 v0 37 = some uC) (uE : Nat) (huE : jr Z0 v0 38 = some uE) (p0 : 0 ≤ v1.toInt ∧ v1.toInt ≤ 5 ∧ 0 ≤ v2.toInt ∧ v2.toInt ≤ 999) (v3 : Int32) (v4 : Int32) (hQ : ∀ (r : Int32) (Z' : jZ) (I' : jI) (L' : jL), WD Z' I' → BUD B Z' T → FR Ws_X12_countWays Z0 I0 Z' I' → CP Z0 Z' → Q r Z' I' L') {K33 : Nat → Int32 → Int32 → Int32 → Int32 → jZ → jI → jL → Prop} {N33 : Int} (hK33 : ∀ (v4 : Int32) (Z : jZ) (I : jI) (L : jL), WD Z I → BUD B Z T → FR Ws_X12_countWays Z0 I0 Z I → CP Z0 Z →   ((0 ≤ v1.toInt ∧ v1.toInt ≤ 5 ∧ 0 ≤ v2.toInt ∧ v2.toInt ≤ 999 ∧ v3.toInt = 121 ∧ 0 ≤ v4.toInt ∧ v4.toInt ≤ 121) ∧ MVB (3 * ((I v0 0).toInt + 1)) (I v0 0).toInt (I uC) (I uE)) → 121 - v4.toInt < N33 → K33 v0 v1 v2 v3 v4 Z I L) : ∀ (n : Nat) (v5 : Int32) (Z : jZ) (I : jI) (L : jL), WD Z I → BUD B Z T → FR Ws_X12_countWays Z0 I0 Z I → CP Z0 Z →   ((0 ≤ v1.toInt ∧ v1.toInt ≤ 5 ∧ 0 ≤ v2.toInt ∧ v2.toInt ≤ 999 ∧ v3.toInt = 121 ∧ 0 ≤ v4.toInt ∧ v4.toInt ≤ 120 ∧ 0 ≤ v5.toInt ∧ v5.toInt ≤ 1000) ∧ MVB (3 * ((I v0 0).toInt + 1)) (I v0 0).toInt (I uC) (I uE)) → 121 - v4.toInt ≤ N33 → 1000 - v5.toInt < (n : Int) → f_X12_countWays_L47 B K33 Q n v0 v1 v2 v3 v4 v5 Z I L := by
  intro n
  induction n with
  | zero =>
    intro v5 Z I L w_I bd_Z q_I cp_Z   li hm33 me
    exfalso
    omega
  | succ n ih =>
    intro v5 Z I L w_I bd_Z q_I cp_Z   li hm33 me
    unfold f_X12_countWays_L47
    have rv5 := i_rng v5
    have rv3 := i_rng v3
    have rv4 := i_rng v4
    have rv1 := i_rng v1
    have rv2 := i_rng v2
    obtain ⟨li0, li1⟩ := li
    have kv0_0 := kv0
    have kv0 := (q_I.1 _ _ kv0).1
    have t119 : 0 ≤ (I v0 0).toInt ∧ (I v0 0).toInt ≤ 24 := w_I.fld 12 0 kv0 (by decide)
    have huC_1 : jr Z v0 37 = some uC := (q_I.2.1 v0 12 37 kv0_0 (by decide) (by decide)).trans huC
    have luC : jlen Z uC = 75 := by obtain ⟨b9, e9, -, l9⟩ := sh_f w_I.1 kv0 (j := 37) (k := 14) (m := 75) rfl; cases huC_1.symm.trans e9; exact l9
    have kuC : jk Z uC 14 := by obtain ⟨b9, e9, k9, -⟩ := sh_f w_I.1 kv0 (j := 37) (k := 14) (m := 75) rfl; cases huC_1.symm.trans e9; exact k9
    have huE_1 : jr Z v0 38 = some uE := (q_I.2.1 v0 12 38 kv0_0 (by decide) (by decide)).trans huE
    have luE : jlen Z uE = 75 := by obtain ⟨b9, e9, -, l9⟩ := sh_f w_I.1 kv0 (j := 38) (k := 14) (m := 75) rfl; cases huE_1.symm.trans e9; exact l9
    have kuE : jk Z uE 14 := by obtain ⟨b9, e9, k9, -⟩ := sh_f w_I.1 kv0 (j := 38) (k := 14) (m := 75) rfl; cases huE_1.symm.trans e9; exact k9
    have xq_I := q_I.1
    have mv := li1
    refine ⟨fun c120 => ?_, fun c120 => ?_⟩
    · skip
      first | (have t121 : v2.toInt < v5.toInt := (i_lt rfl rfl).mp c120) | (have t121 : v2.toInt < v5.toInt := (i_lt rfl rfl).mp c120) | skip
      intro x122 ex122
      have rx122 := i_rng x122
      first | (have tx122 : x122.toInt = v4.toInt + (1) := by (rw [ex122]; exact (i_add rfl (show (1 : Int32).toInt = 1 from rfl) (by omega) (by omega)))) | skip
      exact hK33 x122 Z I L w_I bd_Z q_I cp_Z   (by refine ⟨?_, ?_⟩; (omega); (first | assumption | refine MVB.rew (by omega) (MVB.same (fun _ _ => rfl) (fun _ _ => rfl) (by assumption))))  (by omega)
    · skip
      first | (have t123 : ¬ (v2.toInt < v5.toInt) := (not_congr (i_lt rfl rfl)).mp c120) | (have t123 : ¬ (v2.toInt < v5.toInt) := (not_congr (i_lt rfl rfl)).mp c120) | skip
      intro b124 eb124
      obtain ⟨x125, ex125, kb124, lb124⟩ := sh_f w_I.1 kv0 (j := 45) (k := 14) (m := 484000) rfl
      cases eb124.symm.trans ex125
      have o126 : vp_in ((v4 * (1000 : Int32)) + v5) 484000 := vi_of (i_add (i_mul rfl (show (1000 : Int32).toInt = 1000 from rfl) (by omega) (by omega)) rfl (by omega) (by omega)) (by omega) (by omega)
      refine ⟨o126, ?_⟩
      intro I127 eI127
      have t128 : (0 : Int32).toInt = 0 := rfl
      have w_I127 : WD Z I127 := by rw [eI127]; exact WD_putA w_I 12 45 kv0 eb124 kb124 rfl rfl (by decide) trivial
      have f_I127 : FR [(12, 45)] Z I Z I127 := by rw [eI127]; exact FR_upA w_I.2.1 kv0 eb124 kb124 rfl rfl List.mem_cons_self
      have q_I127 : FR Ws_X12_countWays Z0 I0 Z I127 := q_I.trans w0.1 w0.2.1 (f_I127.mono (by decide))
      have ao_I127_uC : I127 uC = I uC := f_I127.2.2.2 v0 12 37 uC kv0 huC_1 (by rw [kuC.2]; rfl) rfl (by decide)
      have ao_I127_uE : I127 uE = I uE := f_I127.2.2.2 v0 12 38 uE kv0 huE_1 (by rw [kuE.2]; rfl) rfl (by decide)
      have u129 : (I127 v0 0).toInt = (I v0 0).toInt := by rw [f_I127.2.2.1 v0 12 0 kv0 (by decide) (by decide)]
      intro x130 ex130
      have rx130 := i_rng x130
      first | (have tx130 : x130.toInt = v5.toInt + (1) := by (rw [ex130]; exact (i_add rfl (show (1 : Int32).toInt = 1 from rfl) (by omega) (by omega)))) | skip
      exact ih x130 Z I127 L w_I127 bd_Z q_I127 cp_Z   (by refine ⟨?_, ?_⟩; (omega); (refine MVB.rew (by omega) (MVB.same (fun q _ => congrFun ao_I127_uC q) (fun q _ => congrFun ao_I127_uE q) li1))) (by omega) (by omega)
set_option maxHeartbeats 4000000 in
set_option maxRecDepth 100000 in
theorem l_X12_countWays_L33 {B : Nat × Nat} {T : Nat} {Z0 : jZ} {I0 : jI} {Q : Int32 → jZ → jI → jL → Prop} (w0 : WD Z0 I0) (v0 : Nat) (v1 : Int32) (v2 : Int32) (kv0 : jk Z0 v0 12) (uC : Nat) (huC : jr Z0 v0 37 = some uC) (uE : Nat) (huE : jr Z0 v0 38 = some uE) (p0 : 0 ≤ v1.toInt ∧ v1.toInt ≤ 5 ∧ 0 ≤ v2.toInt ∧ v2.toInt ≤ 999) (v3 : Int32) (hQ : ∀ (r : Int32) (Z' : jZ) (I' : jI) (L' : jL), WD Z' I' → BUD B Z' T → FR Ws_X12_countWays Z0 I0 Z' I' → CP Z0 Z' → Q r Z' I' L') : ∀ (n : Nat) (v4 : Int32) (Z : jZ) (I : jI) (L : jL), WD Z I → BUD B Z T → FR Ws_X12_countWays Z0 I0 Z I → CP Z0 Z →   ((0 ≤ v1.toInt ∧ v1.toInt ≤ 5 ∧ 0 ≤ v2.toInt ∧ v2.toInt ≤ 999 ∧ v3.toInt = 121 ∧ 0 ≤ v4.toInt ∧ v4.toInt ≤ 121) ∧ MVB (3 * ((I v0 0).toInt + 1)) (I v0 0).toInt (I uC) (I uE)) → 121 - v4.toInt < (n : Int) → f_X12_countWays_L33 B  Q n v0 v1 v2 v3 v4 Z I L := by
  intro n
  induction n with
  | zero =>
    intro v4 Z I L w_I bd_Z q_I cp_Z   li  me
    exfalso
    omega
  | succ n ih =>
    intro v4 Z I L w_I bd_Z q_I cp_Z   li  me
    unfold f_X12_countWays_L33
    have rv4 := i_rng v4
    have rv3 := i_rng v3
    have rv1 := i_rng v1
    have rv2 := i_rng v2
    obtain ⟨li0, li1⟩ := li
    have kv0_0 := kv0
    have kv0 := (q_I.1 _ _ kv0).1
    have t131 : 0 ≤ (I v0 0).toInt ∧ (I v0 0).toInt ≤ 24 := w_I.fld 12 0 kv0 (by decide)
    have huC_1 : jr Z v0 37 = some uC := (q_I.2.1 v0 12 37 kv0_0 (by decide) (by decide)).trans huC
    have luC : jlen Z uC = 75 := by obtain ⟨b9, e9, -, l9⟩ := sh_f w_I.1 kv0 (j := 37) (k := 14) (m := 75) rfl; cases huC_1.symm.trans e9; exact l9
    have kuC : jk Z uC 14 := by obtain ⟨b9, e9, k9, -⟩ := sh_f w_I.1 kv0 (j := 37) (k := 14) (m := 75) rfl; cases huC_1.symm.trans e9; exact k9
    have huE_1 : jr Z v0 38 = some uE := (q_I.2.1 v0 12 38 kv0_0 (by decide) (by decide)).trans huE
    have luE : jlen Z uE = 75 := by obtain ⟨b9, e9, -, l9⟩ := sh_f w_I.1 kv0 (j := 38) (k := 14) (m := 75) rfl; cases huE_1.symm.trans e9; exact l9
    have kuE : jk Z uE 14 := by obtain ⟨b9, e9, k9, -⟩ := sh_f w_I.1 kv0 (j := 38) (k := 14) (m := 75) rfl; cases huE_1.symm.trans e9; exact k9
    have xq_I := q_I.1
    have mv := li1
    intro b132 eb132
    obtain ⟨x133, ex133, kb132, lb132⟩ := sh_f w_I.1 kv0 (j := 9) (k := 14) (m := 6) rfl
    cases eb132.symm.trans ex133
    have o134 : vp_in v1 6 := vi_of rfl (by omega) (by omega)
    refine ⟨o134, ?_⟩
    have t135 : 0 ≤ (I b132 v1.toNatClampNeg).toInt ∧ (I b132 v1.toNatClampNeg).toInt ≤ 120 := w_I.arr 12 9 kv0 eb132 kb132 rfl rfl _
    refine ⟨fun c136 => ?_, fun c136 => ?_⟩
    · skip
      first | (have t137 : (I b132 v1.toNatClampNeg).toInt < v4.toInt := (i_lt rfl rfl).mp c136) | (have t137 : (I b132 v1.toNatClampNeg).toInt < v4.toInt := (i_lt rfl rfl).mp c136) | skip
      intro b138 eb138
      obtain ⟨x139, ex139, kb138, lb138⟩ := sh_f w_I.1 kv0 (j := 45) (k := 14) (m := 484000) rfl
      cases eb138.symm.trans ex139
      intro I140 eI140
      have t141 : (1 : Int32).toInt = 1 := rfl
      have w_I140 : WD Z I140 := by rw [eI140]; exact WD_putA w_I 12 45 kv0 eb138 kb138 rfl rfl (by decide) trivial
      have f_I140 : FR [(12, 45)] Z I Z I140 := by rw [eI140]; exact FR_upA w_I.2.1 kv0 eb138 kb138 rfl rfl List.mem_cons_self
      have q_I140 : FR Ws_X12_countWays Z0 I0 Z I140 := q_I.trans w0.1 w0.2.1 (f_I140.mono (by decide))
      have ao_I140_uC : I140 uC = I uC := f_I140.2.2.2 v0 12 37 uC kv0 huC_1 (by rw [kuC.2]; rfl) rfl (by decide)
      have ao_I140_uE : I140 uE = I uE := f_I140.2.2.2 v0 12 38 uE kv0 huE_1 (by rw [kuE.2]; rfl) rfl (by decide)
      have u142 : (I140 v0 0).toInt = (I v0 0).toInt := by rw [f_I140.2.2.1 v0 12 0 kv0 (by decide) (by decide)]
      have t143 : (0 : Int32).toInt = 0 := rfl
      exact ⟨(24 - (0 : Int32).toInt).toNat + 1, l_X12_countWays_L90 w0 v0 v1 v2 kv0_0 uC huC uE huE p0 v3  hQ   _ (0 : Int32) Z I140 L w_I140 bd_Z q_I140 cp_Z   (by refine ⟨?_, ?_⟩; (omega); (refine MVB.rew (by omega) (MVB.same (fun q _ => congrFun ao_I140_uC q) (fun q _ => congrFun ao_I140_uE q) li1)))  (by omega)⟩
    · skip
      first | (have t144 : ¬ ((I b132 v1.toNatClampNeg).toInt < v4.toInt) := (not_congr (i_lt rfl rfl)).mp c136) | (have t144 : ¬ ((I b132 v1.toNatClampNeg).toInt < v4.toInt) := (not_congr (i_lt rfl rfl)).mp c136) | skip
      have t145 : (0 : Int32).toInt = 0 := rfl
      exact ⟨(1000 - (0 : Int32).toInt).toNat + 1, l_X12_countWays_L47 w0 v0 v1 v2 kv0_0 uC huC uE huE p0 v3 v4  hQ ih  _ (0 : Int32) Z I L w_I bd_Z q_I cp_Z   (by refine ⟨?_, ?_⟩; (omega); (refine MVB.rew (by omega) (MVB.same (fun _ _ => rfl) (fun _ _ => rfl) li1))) (by omega) (by omega)⟩
set_option maxHeartbeats 4000000 in
set_option maxRecDepth 100000 in
theorem s_X12_countWays {B : Nat × Nat} {T : Nat} {Z : jZ} {I : jI} {L : jL} (w_I : WD Z I) (bd_Z : BUD B Z T) (v0 : Nat) (v1 : Int32) (v2 : Int32) (kv0 : jk Z v0 12) (uC : Nat) (huC : jr Z v0 37 = some uC) (uE : Nat) (huE : jr Z v0 38 = some uE) (p0 : 0 ≤ v1.toInt ∧ v1.toInt ≤ 5 ∧ 0 ≤ v2.toInt ∧ v2.toInt ≤ 999) {Q : Int32 → jZ → jI → jL → Prop} (hQ : ∀ (r : Int32) (Z' : jZ) (I' : jI) (L' : jL), WD Z' I' → BUD B Z' T → FR Ws_X12_countWays Z I Z' I' → CP Z Z' → Q r Z' I' L') : f_X12_countWays B v0 v1 v2 Z I L Q := by
  unfold f_X12_countWays
  have q_I : FR Ws_X12_countWays Z I Z I := FR.rf
  have cp_Z : CP Z Z := CP.rf
  have rv1 := i_rng v1
  have rv2 := i_rng v2
  have t146 : 0 ≤ (I v0 0).toInt ∧ (I v0 0).toInt ≤ 24 := w_I.fld 12 0 kv0 (by decide)
  have luC : jlen Z uC = 75 := by obtain ⟨b9, e9, -, l9⟩ := sh_f w_I.1 kv0 (j := 37) (k := 14) (m := 75) rfl; cases huC.symm.trans e9; exact l9
  have kuC : jk Z uC 14 := by obtain ⟨b9, e9, k9, -⟩ := sh_f w_I.1 kv0 (j := 37) (k := 14) (m := 75) rfl; cases huC.symm.trans e9; exact k9
  have luE : jlen Z uE = 75 := by obtain ⟨b9, e9, -, l9⟩ := sh_f w_I.1 kv0 (j := 38) (k := 14) (m := 75) rfl; cases huE.symm.trans e9; exact l9
  have kuE : jk Z uE 14 := by obtain ⟨b9, e9, k9, -⟩ := sh_f w_I.1 kv0 (j := 38) (k := 14) (m := 75) rfl; cases huE.symm.trans e9; exact k9
  intro I147 eI147
  have t148 : (-1 : Int32).toInt = -1 := rfl
  have w_I147 : WD Z I147 := by rw [eI147]; exact WD_putF w_I 12 46 kv0 (by decide) (by decide) trivial
  have f_I147 : FR [(12, 46)] Z I Z I147 := by rw [eI147]; exact FR_putF kv0 (by decide) List.mem_cons_self
  have q_I147 : FR Ws_X12_countWays Z I Z I147 := q_I.trans w_I.1 w_I.2.1 (f_I147.mono (by decide))
  have ao_I147_uC : I147 uC = I uC := f_I147.2.2.2 v0 12 37 uC kv0 huC (by rw [kuC.2]; rfl) rfl (by decide)
  have ao_I147_uE : I147 uE = I uE := f_I147.2.2.2 v0 12 38 uE kv0 huE (by rw [kuE.2]; rfl) rfl (by decide)
  have u149 : (I147 v0 0).toInt = (I v0 0).toInt := by rw [f_I147.2.2.1 v0 12 0 kv0 (by decide) (by decide)]
  first | (have u150 : (I147 v0 46).toInt = (-1) := by (rw [eI147, show jpI I v0 46 (-1 : Int32) v0 46 = (-1 : Int32) from jpI_at] <;> exact (show (-1 : Int32).toInt = -1 from rfl))) | skip
  intro I151 eI151
  have t152 : (0 : Int32).toInt = 0 := rfl
  have w_I151 : WD Z I151 := by rw [eI151]; exact WD_putF w_I147 12 47 kv0 (by decide) (by decide) trivial
  have f_I151 : FR [(12, 47)] Z I147 Z I151 := by rw [eI151]; exact FR_putF kv0 (by decide) List.mem_cons_self
  have q_I151 : FR Ws_X12_countWays Z I Z I151 := q_I147.trans w_I.1 w_I.2.1 (f_I151.mono (by decide))
  have ao_I151_uC : I151 uC = I uC := (f_I151.2.2.2 v0 12 37 uC kv0 huC (by rw [kuC.2]; rfl) rfl (by decide)).trans ao_I147_uC
  have ao_I151_uE : I151 uE = I uE := (f_I151.2.2.2 v0 12 38 uE kv0 huE (by rw [kuE.2]; rfl) rfl (by decide)).trans ao_I147_uE
  have u153 : (I151 v0 0).toInt = (I147 v0 0).toInt := by rw [f_I151.2.2.1 v0 12 0 kv0 (by decide) (by decide)]
  have u154 : (I151 v0 46).toInt = (I147 v0 46).toInt := by rw [f_I151.2.2.1 v0 12 46 kv0 (by decide) (by decide)]
  first | (have u155 : (I151 v0 47).toInt = (0) := by (rw [eI151, show jpI I147 v0 47 (0 : Int32) v0 47 = (0 : Int32) from jpI_at] <;> exact (show (0 : Int32).toInt = 0 from rfl))) | skip
  intro b156 eb156
  obtain ⟨x157, ex157, kb156, lb156⟩ := sh_f w_I151.1 kv0 (j := 10) (k := 14) (m := 6) rfl
  cases eb156.symm.trans ex157
  have o158 : vp_in v1 6 := vi_of rfl (by omega) (by omega)
  refine ⟨o158, ?_⟩
  have t159 : 0 ≤ (I151 b156 v1.toNatClampNeg).toInt ∧ (I151 b156 v1.toNatClampNeg).toInt ≤ 999 := w_I151.arr 12 10 kv0 eb156 kb156 rfl rfl _
  refine ⟨fun c160 => ?_, fun c160 => ?_⟩
  · skip
    first | (have t161 : v2.toInt ≤ (I151 b156 v1.toNatClampNeg).toInt := (i_le rfl rfl).mp c160) | (have t161 : v2.toInt ≤ (I151 b156 v1.toNatClampNeg).toInt := (i_le rfl rfl).mp c160) | skip
    refine s_X12_layMoves w_I151 bd_Z v0 v1 kv0 uC huC uE huE (by omega) (fun  Z165 I163 L164 w_I163 bd_Z165 f_I163 c_Z165 p162 => ?_)
    have q_I163 : FR Ws_X12_countWays Z I Z165 I163 := q_I151.trans w_I.1 w_I.2.1 (f_I163.mono (by decide))
    have cp_Z165 : CP Z Z165 := cp_Z.trans q_I151.1 c_Z165
    have x_Z165 := f_I163.1
    have k166 := (f_I163.1 _ _ kv0).1
    have k167 := (f_I163.1 _ _ kuC).1
    have l168 := (f_I163.1 _ _ kuC).2.trans luC
    have k169 := (f_I163.1 _ _ kv0).1
    have e170 := (f_I163.2.1 v0 12 37 kv0 (by decide) (by decide)).trans huC
    have k171 := (f_I163.1 _ _ kuE).1
    have l172 := (f_I163.1 _ _ kuE).2.trans luE
    have k173 := (f_I163.1 _ _ kv0).1
    have e174 := (f_I163.2.1 v0 12 38 kv0 (by decide) (by decide)).trans huE
    have k175 := (f_I163.1 _ _ kb156).1
    have l176 := (f_I163.1 _ _ kb156).2.trans lb156
    have k177 := (f_I163.1 _ _ kv0).1
    have e178 := (f_I163.2.1 v0 12 10 kv0 (by decide) (by decide)).trans eb156
    have u179 : (I163 v0 0).toInt = (I151 v0 0).toInt := by rw [f_I163.2.2.1 v0 12 0 kv0 (by decide) (by decide)]
    have u180 : (I163 v0 46).toInt = (I151 v0 46).toInt := by rw [f_I163.2.2.1 v0 12 46 kv0 (by decide) (by decide)]
    have u181 : (I163 v0 47).toInt = (I151 v0 47).toInt := by rw [f_I163.2.2.1 v0 12 47 kv0 (by decide) (by decide)]
    have t182 : (121 : Int32).toInt = 121 := rfl
    have t183 : (0 : Int32).toInt = 0 := rfl
    exact ⟨(121 - (0 : Int32).toInt).toNat + 1, l_X12_countWays_L33 w_I v0 v1 v2 kv0 uC huC uE huE p0 (121 : Int32)  hQ   _ (0 : Int32) Z165 I163 L164 w_I163 bd_Z165 q_I163 cp_Z165   (by refine ⟨?_, ?_⟩; (omega); (first | assumption | refine MVB.rew (by omega) (MVB.same (fun _ _ => rfl) (fun _ _ => rfl) (by assumption))))  (by omega)⟩
  · skip
    first | (have t184 : ¬ (v2.toInt ≤ (I151 b156 v1.toNatClampNeg).toInt) := (not_congr (i_le rfl rfl)).mp c160) | (have t184 : ¬ (v2.toInt ≤ (I151 b156 v1.toNatClampNeg).toInt) := (not_congr (i_le rfl rfl)).mp c160) | skip
    have t185 : (0 : Int32).toInt = 0 := rfl
    exact hQ (0 : Int32) Z I151 L w_I151 bd_Z q_I151 cp_Z 
end
section
/-! ===== a fraction is told ===== -/
theorem l_rem {x y : Int64} (hy : ¬ y = 0) : (x - x / y * y).toInt.natAbs < y.toInt.natAbs := by
  have h0 : y.toInt ≠ 0 := fun h => hy (Int64.toInt_inj.mp h)
  have e : (x - x / y * y).toInt = (x.toInt - x.toInt.tdiv y.toInt * y.toInt).bmod (2 ^ 64) := by
    rw [Int64.toInt_sub, Int64.toInt_mul, Int64.toInt_div]
    simp
  have t : x.toInt - x.toInt.tdiv y.toInt * y.toInt = x.toInt.tmod y.toInt := by
    have := Int.mul_tdiv_add_tmod x.toInt y.toInt
    rw [Int.mul_comm] at this
    omega
  have b : (x.toInt.tmod y.toInt).natAbs < y.toInt.natAbs := by
    rw [Int.natAbs_tmod]
    exact Nat.mod_lt _ (by omega)
  have l1 := Int64.le_toInt y
  have l2 := Int64.toInt_lt y
  rw [e, t, Int.bmod_def]
  generalize x.toInt.tmod y.toInt = m at b ⊢
  omega
theorem s_X12_tellPart {Z : jZ} {I : jI} {L : jL} (w_I : WD Z I) (v0 : Nat) (v1 v3 : Int64) (kv0 : jk Z v0 12) (p0 : ¬ v3 = 0) (p1 : (I v0 21).toInt ≤ 38) {Q : jI → jL → Prop} (hQ : ∀ (I' : jI) (L' : jL), WD Z I' → FR [(12, 21)] Z I Z I' → Q I' L') : f_X12_tellPart v0 v1 v3 Z I L Q := by
  have key : ∀ (n : Nat) (v5 v7 : Int64), (¬ v5 = 0 ∨ ¬ v7 = 0) → v7.toInt.natAbs < n → f_X12_tellPart_L6 Z Q n v0 v1 v3 v5 v7 I L := by
    intro n
    induction n with
    | zero => intro v5 v7 h1 h2; exfalso; omega
    | succ n ih =>
      intro v5 v7 h1 h2
      unfold f_X12_tellPart_L6
      refine ⟨fun c => ?_, fun c => ?_⟩
      · have h7 : v7 = 0 := (lg_cmp_eq v7 0).mp c
        have h5 : ¬ v5 = 0 := h1.resolve_right (fun h => h h7)
        refine ⟨h5, s_X12_tell w_I v0 _ kv0 (by omega) (fun I5 L6 w5 f5 p5 => ⟨h5, s_X12_tell w5 v0 _ kv0 (by omega) (fun I6 L7 w6 f6 p6 => hQ I6 L7 w6 ?_)⟩)⟩
        exact FR.trans w_I.1 w_I.2.1 (f5.mono (by decide)) (f6.mono (by decide))
      · have h7 : ¬ v7 = 0 := fun h => c ((lg_cmp_eq v7 0).mpr h)
        refine ⟨h7, fun x ex => ih v7 x (Or.inl h7) ?_⟩
        have := l_rem (x := v5) h7
        rw [← ex] at this
        omega
  unfold f_X12_tellPart
  exact ⟨v3.toInt.natAbs + 1, key _ v1 v3 (Or.inr p0) (by omega)⟩
theorem l_of {x : Int32} (h : ¬ x.toInt = 0) : ¬ x.toInt64 = 0 := fun q => by
  have := congrArg Int64.toInt q
  rw [Int32.toInt_toInt64] at this
  exact h this
end
section
def Ws_X12_ways : List (Nat × Nat) := [(12, 21), (12, 22), (12, 24), (12, 25), (12, 26), (12, 27), (12, 31), (12, 32), (12, 33), (12, 34), (12, 37), (12, 38), (12, 45), (12, 46), (12, 47)]
set_option maxHeartbeats 4000000 in
set_option maxRecDepth 100000 in
theorem s_X12_ways {B : Nat × Nat} {T : Nat} {Z : jZ} {I : jI} {L : jL} (w_I : WD Z I) (bd_Z : BUD B Z T) (v0 : Nat) (v1 : Int32) (v2 : Int32) (kv0 : jk Z v0 12) {Q : Int64 → jZ → jI → jL → Prop} (hQ : ∀ (r : Int64) (Z' : jZ) (I' : jI) (L' : jL), WD Z' I' → BUD B Z' T → FR Ws_X12_ways Z I Z' I' → CP Z Z' → Q r Z' I' L') : f_X12_ways B v0 v1 v2 Z I L Q := by
  unfold f_X12_ways
  have q_I : FR Ws_X12_ways Z I Z I := FR.rf
  have cp_Z : CP Z Z := CP.rf
  have rv1 := i_rng v1
  have rv2 := i_rng v2
  intro I1 eI1
  have t2 : (0 : Int32).toInt = 0 := rfl
  have w_I1 : WD Z I1 := by rw [eI1]; exact WD_putF w_I 12 22 kv0 (by decide) (by decide) trivial
  have f_I1 : FR [(12, 22)] Z I Z I1 := by rw [eI1]; exact FR_putF kv0 (by decide) List.mem_cons_self
  have q_I1 : FR Ws_X12_ways Z I Z I1 := q_I.trans w_I.1 w_I.2.1 (f_I1.mono (by decide))
  first | (have u3 : (I1 v0 22).toInt = (0) := by (rw [eI1, show jpI I v0 22 (0 : Int32) v0 22 = (0 : Int32) from jpI_at] <;> exact (show (0 : Int32).toInt = 0 from rfl))) | skip
  refine s_X12_isOne w_I1 v0 v1 kv0   (fun r4 p5 => ?_)
  have rr4 := i_rng r4
  refine ⟨fun c6 => ?_, fun c6 => ?_⟩
  · skip
    first | (have t7 : r4.toInt = (0) := (i_eq rfl (show (0 : Int32).toInt = 0 from rfl)).mp c6) | (have t7 : r4.toInt = (0 : Int32).toInt := (i_eq rfl rfl).mp c6) | skip
    unfold f_X12_ways_b27
    exact hQ (-1 : Int64) Z I1 L w_I1 bd_Z q_I1 cp_Z 
  · skip
    first | (have t8 : ¬ (r4.toInt = (0)) := (not_congr (i_eq rfl (show (0 : Int32).toInt = 0 from rfl))).mp c6) | (have t8 : ¬ (r4.toInt = (0 : Int32).toInt) := (not_congr (i_eq rfl rfl)).mp c6) | skip
    have t10 : 0 ≤ (I1 v0 0).toInt ∧ (I1 v0 0).toInt ≤ 24 := w_I1.fld 12 0 kv0 (by decide)
    refine ⟨fun c11 => ?_, fun c11 => ?_⟩
    · skip
      first | (have t12 : (I1 v0 0).toInt = (0) := (i_eq rfl (show (0 : Int32).toInt = 0 from rfl)).mp c11) | (have t12 : (I1 v0 0).toInt = (0 : Int32).toInt := (i_eq rfl rfl).mp c11) | skip
      unfold f_X12_ways_b27
      exact hQ (-1 : Int64) Z I1 L w_I1 bd_Z q_I1 cp_Z 
    · skip
      first | (have t13 : ¬ ((I1 v0 0).toInt = (0)) := (not_congr (i_eq rfl (show (0 : Int32).toInt = 0 from rfl))).mp c11) | (have t13 : ¬ ((I1 v0 0).toInt = (0 : Int32).toInt) := (not_congr (i_eq rfl rfl)).mp c11) | skip
      refine s_X12_isCost w_I1 v2    (fun r14 p15 => ?_)
      have rr14 := i_rng r14
      refine ⟨fun c16 => ?_, fun c16 => ?_⟩
      · skip
        first | (have t17 : ¬ (r14.toInt = (0)) := (not_congr (i_eq rfl (show (0 : Int32).toInt = 0 from rfl))).mp c16) | (have t17 : ¬ (r14.toInt = (0 : Int32).toInt) := (not_congr (i_eq rfl rfl)).mp c16) | skip
        obtain ⟨b18, eb18, kb18, lb18⟩ := sh_f w_I1.1 kv0 (j := 37) (k := 14) (m := 75) rfl
        obtain ⟨b19, eb19, kb19, lb19⟩ := sh_f w_I1.1 kv0 (j := 38) (k := 14) (m := 75) rfl
        refine s_X12_countWays w_I1 bd_Z v0 v1 v2 kv0 b18 eb18 b19 eb19 (by omega) (fun r20 Z23 I21 L22 w_I21 bd_Z23 f_I21 c_Z23  => ?_)
        have q_I21 : FR Ws_X12_ways Z I Z23 I21 := q_I1.trans w_I.1 w_I.2.1 (f_I21.mono (by decide))
        have cp_Z23 : CP Z Z23 := cp_Z.trans q_I1.1 c_Z23
        have x_Z23 := f_I21.1
        have k24 := (f_I21.1 _ _ kv0).1
        have k25 := (f_I21.1 _ _ kb18).1
        have l26 := (f_I21.1 _ _ kb18).2.trans lb18
        have k27 := (f_I21.1 _ _ kv0).1
        have e28 := (f_I21.2.1 v0 12 37 kv0 (by decide) (by decide)).trans eb18
        have k29 := (f_I21.1 _ _ kb19).1
        have l30 := (f_I21.1 _ _ kb19).2.trans lb19
        have k31 := (f_I21.1 _ _ kv0).1
        have e32 := (f_I21.2.1 v0 12 38 kv0 (by decide) (by decide)).trans eb19
        have u33 : (I21 v0 22).toInt = (I1 v0 22).toInt := by rw [f_I21.2.2.1 v0 12 22 kv0 (by decide) (by decide)]
        have u34 : (I21 v0 0).toInt = (I1 v0 0).toInt := by rw [f_I21.2.2.1 v0 12 0 kv0 (by decide) (by decide)]
        have rr20 := i_rng r20
        intro I35 eI35
        have t36 : (0 : Int32).toInt = 0 := rfl
        have w_I35 : WD Z23 I35 := by rw [eI35]; exact WD_putF w_I21 12 21 k24 (by decide) (by decide) (by constructor <;> omega)
        have f_I35 : FR [(12, 21)] Z23 I21 Z23 I35 := by rw [eI35]; exact FR_putF k24 (by decide) List.mem_cons_self
        have q_I35 : FR Ws_X12_ways Z I Z23 I35 := q_I21.trans w_I.1 w_I.2.1 (f_I35.mono (by decide))
        have u37 : (I35 v0 22).toInt = (I21 v0 22).toInt := by rw [f_I35.2.2.1 v0 12 22 k24 (by decide) (by decide)]
        have u38 : (I35 v0 0).toInt = (I21 v0 0).toInt := by rw [f_I35.2.2.1 v0 12 0 k24 (by decide) (by decide)]
        first | (have u39 : (I35 v0 21).toInt = (0) := by (rw [eI35, show jpI I21 v0 21 (0 : Int32) v0 21 = (0 : Int32) from jpI_at] <;> exact (show (0 : Int32).toInt = 0 from rfl))) | skip
        refine s_X12_tell w_I35 v0 ((I35 v0 47).toInt64) k24  (by omega) (fun  I41 L42 w_I41 f_I41 p40 => ?_)
        have q_I41 : FR Ws_X12_ways Z I Z23 I41 := q_I35.trans w_I.1 w_I.2.1 (f_I41.mono (by decide))
        have u43 : (I41 v0 22).toInt = (I35 v0 22).toInt := by rw [f_I41.2.2.1 v0 12 22 k24 (by decide) (by decide)]
        have u44 : (I41 v0 0).toInt = (I35 v0 0).toInt := by rw [f_I41.2.2.1 v0 12 0 k24 (by decide) (by decide)]
        have u45 : (I41 v0 47).toInt = (I35 v0 47).toInt := by rw [f_I41.2.2.1 v0 12 47 k24 (by decide) (by decide)]
        exact hQ (r20.toInt64) Z23 I41 L42 w_I41 bd_Z23 q_I41 cp_Z23 
      · skip
        first | (have t46 : r14.toInt = (0) := (i_eq rfl (show (0 : Int32).toInt = 0 from rfl)).mp c16) | (have t46 : r14.toInt = (0 : Int32).toInt := (i_eq rfl rfl).mp c16) | skip
        unfold f_X12_ways_b27
        exact hQ (-1 : Int64) Z I1 L w_I1 bd_Z q_I1 cp_Z 
def Ws_X12_countTreading : List (Nat × Nat) := [(12, 24), (12, 25), (12, 26), (12, 27), (12, 31), (12, 32), (12, 33), (12, 34), (12, 37), (12, 38), (12, 39), (12, 45), (12, 46), (12, 47)]
set_option maxHeartbeats 4000000 in
set_option maxRecDepth 100000 in
theorem s_X12_countTreading {B : Nat × Nat} {T : Nat} {Z : jZ} {I : jI} {L : jL} (w_I : WD Z I) (bd_Z : BUD B Z T) (v0 : Nat) (v1 : Int32) (v2 : Int32) (v3 : Int32) (kv0 : jk Z v0 12) (p0 : 0 ≤ v1.toInt ∧ v1.toInt ≤ 5 ∧ 0 ≤ v2.toInt ∧ v2.toInt ≤ 999 ∧ 0 ≤ v3.toInt ∧ v3.toInt ≤ 23) {Q : Int32 → jZ → jI → jL → Prop} (hQ : ∀ (r : Int32) (Z' : jZ) (I' : jI) (L' : jL), WD Z' I' → BUD B Z' T → FR Ws_X12_countTreading Z I Z' I' → CP Z Z' → Q r Z' I' L') : f_X12_countTreading B v0 v1 v2 v3 Z I L Q := by
  unfold f_X12_countTreading
  have q_I : FR Ws_X12_countTreading Z I Z I := FR.rf
  have cp_Z : CP Z Z := CP.rf
  have rv1 := i_rng v1
  have rv2 := i_rng v2
  have rv3 := i_rng v3
  obtain ⟨b1, eb1, kb1, lb1⟩ := sh_f w_I.1 kv0 (j := 37) (k := 14) (m := 75) rfl
  obtain ⟨b2, eb2, kb2, lb2⟩ := sh_f w_I.1 kv0 (j := 38) (k := 14) (m := 75) rfl
  refine s_X12_countWays w_I bd_Z v0 v1 v2 kv0 b1 eb1 b2 eb2 (by omega) (fun r3 Z6 I4 L5 w_I4 bd_Z6 f_I4 c_Z6  => ?_)
  have q_I4 : FR Ws_X12_countTreading Z I Z6 I4 := q_I.trans w_I.1 w_I.2.1 (f_I4.mono (by decide))
  have cp_Z6 : CP Z Z6 := cp_Z.trans q_I.1 c_Z6
  have x_Z6 := f_I4.1
  have k7 := (f_I4.1 _ _ kv0).1
  have k8 := (f_I4.1 _ _ kb1).1
  have l9 := (f_I4.1 _ _ kb1).2.trans lb1
  have k10 := (f_I4.1 _ _ kv0).1
  have e11 := (f_I4.2.1 v0 12 37 kv0 (by decide) (by decide)).trans eb1
  have k12 := (f_I4.1 _ _ kb2).1
  have l13 := (f_I4.1 _ _ kb2).2.trans lb2
  have k14 := (f_I4.1 _ _ kv0).1
  have e15 := (f_I4.2.1 v0 12 38 kv0 (by decide) (by decide)).trans eb2
  have rr3 := i_rng r3
  intro I16 eI16
  have w_I16 : WD Z6 I16 := by rw [eI16]; exact WD_putF w_I4 12 39 k7 (by decide) (by decide) (by constructor <;> omega)
  have f_I16 : FR [(12, 39)] Z6 I4 Z6 I16 := by rw [eI16]; exact FR_putF k7 (by decide) List.mem_cons_self
  have q_I16 : FR Ws_X12_countTreading Z I Z6 I16 := q_I4.trans w_I.1 w_I.2.1 (f_I16.mono (by decide))
  first | (have u17 : (I16 v0 39).toInt = v3.toInt := by (rw [eI16, show jpI I4 v0 39 v3 v0 39 = v3 from jpI_at] <;> exact rfl)) | skip
  refine s_X12_countWays w_I16 bd_Z6 v0 v1 v2 k7 b1 e11 b2 e15 (by omega) (fun r18 Z21 I19 L20 w_I19 bd_Z21 f_I19 c_Z21  => ?_)
  have q_I19 : FR Ws_X12_countTreading Z I Z21 I19 := q_I16.trans w_I.1 w_I.2.1 (f_I19.mono (by decide))
  have cp_Z21 : CP Z Z21 := cp_Z6.trans q_I16.1 c_Z21
  have x_Z21 := f_I19.1
  have k22 := (f_I19.1 _ _ k7).1
  have k23 := (f_I19.1 _ _ k8).1
  have l24 := (f_I19.1 _ _ k8).2.trans l9
  have k25 := (f_I19.1 _ _ k10).1
  have e26 := (f_I19.2.1 v0 12 37 k10 (by decide) (by decide)).trans e11
  have k27 := (f_I19.1 _ _ k12).1
  have l28 := (f_I19.1 _ _ k12).2.trans l13
  have k29 := (f_I19.1 _ _ k14).1
  have e30 := (f_I19.2.1 v0 12 38 k14 (by decide) (by decide)).trans e15
  have u31 : (I19 v0 39).toInt = (I16 v0 39).toInt := by rw [f_I19.2.2.1 v0 12 39 k7 (by decide) (by decide)]
  have rr18 := i_rng r18
  intro I32 eI32
  have t33 : (-1 : Int32).toInt = -1 := rfl
  have w_I32 : WD Z21 I32 := by rw [eI32]; exact WD_putF w_I19 12 39 k22 (by decide) (by decide) (by constructor <;> omega)
  have f_I32 : FR [(12, 39)] Z21 I19 Z21 I32 := by rw [eI32]; exact FR_putF k22 (by decide) List.mem_cons_self
  have q_I32 : FR Ws_X12_countTreading Z I Z21 I32 := q_I19.trans w_I.1 w_I.2.1 (f_I32.mono (by decide))
  first | (have u34 : (I32 v0 39).toInt = (-1) := by (rw [eI32, show jpI I19 v0 39 (-1 : Int32) v0 39 = (-1 : Int32) from jpI_at] <;> exact (show (-1 : Int32).toInt = -1 from rfl))) | skip
  try (have t35 : (r3 - r18).toInt = (r3.toInt - r18.toInt) := (i_sub rfl rfl (by omega) (by omega)))
  exact hQ (r3 - r18) Z21 I32 L20 w_I32 bd_Z21 q_I32 cp_Z21 
def Ws_X12_trod : List (Nat × Nat) := [(12, 21), (12, 22), (12, 24), (12, 25), (12, 26), (12, 27), (12, 31), (12, 32), (12, 33), (12, 34), (12, 37), (12, 38), (12, 39), (12, 45), (12, 46), (12, 47)]
set_option maxHeartbeats 4000000 in
set_option maxRecDepth 100000 in
theorem s_X12_trod {B : Nat × Nat} {T : Nat} {Z : jZ} {I : jI} {L : jL} (w_I : WD Z I) (bd_Z : BUD B Z T) (v0 : Nat) (v1 : Int32) (v2 : Int32) (v3 : Int32) (kv0 : jk Z v0 12) {Q : Int32 → jZ → jI → jL → Prop} (hQ : ∀ (r : Int32) (Z' : jZ) (I' : jI) (L' : jL), WD Z' I' → BUD B Z' T → FR Ws_X12_trod Z I Z' I' → CP Z Z' → Q r Z' I' L') : f_X12_trod B v0 v1 v2 v3 Z I L Q := by
  unfold f_X12_trod
  have q_I : FR Ws_X12_trod Z I Z I := FR.rf
  have cp_Z : CP Z Z := CP.rf
  have rv1 := i_rng v1
  have rv2 := i_rng v2
  have rv3 := i_rng v3
  intro I1 eI1
  have t2 : (0 : Int32).toInt = 0 := rfl
  have w_I1 : WD Z I1 := by rw [eI1]; exact WD_putF w_I 12 22 kv0 (by decide) (by decide) trivial
  have f_I1 : FR [(12, 22)] Z I Z I1 := by rw [eI1]; exact FR_putF kv0 (by decide) List.mem_cons_self
  have q_I1 : FR Ws_X12_trod Z I Z I1 := q_I.trans w_I.1 w_I.2.1 (f_I1.mono (by decide))
  first | (have u3 : (I1 v0 22).toInt = (0) := by (rw [eI1, show jpI I v0 22 (0 : Int32) v0 22 = (0 : Int32) from jpI_at] <;> exact (show (0 : Int32).toInt = 0 from rfl))) | skip
  refine s_X12_isOne w_I1 v0 v1 kv0   (fun r4 p5 => ?_)
  have rr4 := i_rng r4
  refine ⟨fun c6 => ?_, fun c6 => ?_⟩
  · skip
    first | (have t7 : r4.toInt = (0) := (i_eq rfl (show (0 : Int32).toInt = 0 from rfl)).mp c6) | (have t7 : r4.toInt = (0 : Int32).toInt := (i_eq rfl rfl).mp c6) | skip
    have t8 : (-1 : Int32).toInt = -1 := rfl
    exact hQ (-1 : Int32) Z I1 L w_I1 bd_Z q_I1 cp_Z 
  · skip
    first | (have t9 : ¬ (r4.toInt = (0)) := (not_congr (i_eq rfl (show (0 : Int32).toInt = 0 from rfl))).mp c6) | (have t9 : ¬ (r4.toInt = (0 : Int32).toInt) := (not_congr (i_eq rfl rfl)).mp c6) | skip
    refine s_X12_isCost w_I1 v2    (fun r10 p11 => ?_)
    have rr10 := i_rng r10
    refine ⟨fun c12 => ?_, fun c12 => ?_⟩
    · skip
      first | (have t13 : r10.toInt = (0) := (i_eq rfl (show (0 : Int32).toInt = 0 from rfl)).mp c12) | (have t13 : r10.toInt = (0 : Int32).toInt := (i_eq rfl rfl).mp c12) | skip
      have t14 : (-1 : Int32).toInt = -1 := rfl
      exact hQ (-1 : Int32) Z I1 L w_I1 bd_Z q_I1 cp_Z 
    · skip
      first | (have t15 : ¬ (r10.toInt = (0)) := (not_congr (i_eq rfl (show (0 : Int32).toInt = 0 from rfl))).mp c12) | (have t15 : ¬ (r10.toInt = (0 : Int32).toInt) := (not_congr (i_eq rfl rfl)).mp c12) | skip
      refine s_X12_isStep w_I1 v0 v3 kv0   (fun r16 p17 => ?_)
      have rr16 := i_rng r16
      refine ⟨fun c18 => ?_, fun c18 => ?_⟩
      · skip
        first | (have t19 : ¬ (r16.toInt = (0)) := (not_congr (i_eq rfl (show (0 : Int32).toInt = 0 from rfl))).mp c18) | (have t19 : ¬ (r16.toInt = (0 : Int32).toInt) := (not_congr (i_eq rfl rfl)).mp c18) | skip
        refine s_X12_countTreading w_I1 bd_Z v0 v1 v2 v3 kv0  (by omega) (fun r20 Z23 I21 L22 w_I21 bd_Z23 f_I21 c_Z23  => ?_)
        have q_I21 : FR Ws_X12_trod Z I Z23 I21 := q_I1.trans w_I.1 w_I.2.1 (f_I21.mono (by decide))
        have cp_Z23 : CP Z Z23 := cp_Z.trans q_I1.1 c_Z23
        have x_Z23 := f_I21.1
        have k24 := (f_I21.1 _ _ kv0).1
        have u25 : (I21 v0 22).toInt = (I1 v0 22).toInt := by rw [f_I21.2.2.1 v0 12 22 kv0 (by decide) (by decide)]
        have rr20 := i_rng r20
        obtain ⟨b26, eb26, kb26, lb26⟩ := sh_f w_I21.1 k24 (j := 37) (k := 14) (m := 75) rfl
        obtain ⟨b27, eb27, kb27, lb27⟩ := sh_f w_I21.1 k24 (j := 38) (k := 14) (m := 75) rfl
        refine s_X12_countWays w_I21 bd_Z23 v0 v1 v2 k24 b26 eb26 b27 eb27 (by omega) (fun r28 Z31 I29 L30 w_I29 bd_Z31 f_I29 c_Z31  => ?_)
        have q_I29 : FR Ws_X12_trod Z I Z31 I29 := q_I21.trans w_I.1 w_I.2.1 (f_I29.mono (by decide))
        have cp_Z31 : CP Z Z31 := cp_Z23.trans q_I21.1 c_Z31
        have x_Z31 := f_I29.1
        have k32 := (f_I29.1 _ _ k24).1
        have k33 := (f_I29.1 _ _ kb26).1
        have l34 := (f_I29.1 _ _ kb26).2.trans lb26
        have k35 := (f_I29.1 _ _ k24).1
        have e36 := (f_I29.2.1 v0 12 37 k24 (by decide) (by decide)).trans eb26
        have k37 := (f_I29.1 _ _ kb27).1
        have l38 := (f_I29.1 _ _ kb27).2.trans lb27
        have k39 := (f_I29.1 _ _ k24).1
        have e40 := (f_I29.2.1 v0 12 38 k24 (by decide) (by decide)).trans eb27
        have u41 : (I29 v0 22).toInt = (I21 v0 22).toInt := by rw [f_I29.2.2.1 v0 12 22 k24 (by decide) (by decide)]
        have rr28 := i_rng r28
        refine ⟨fun c42 => ?_, fun c42 => ?_⟩
        · skip
          first | (have t43 : ¬ (r28.toInt = (0)) := (not_congr (i_eq rfl (show (0 : Int32).toInt = 0 from rfl))).mp c42) | (have t43 : ¬ (r28.toInt = (0 : Int32).toInt) := (not_congr (i_eq rfl rfl)).mp c42) | skip
          intro I44 eI44
          have t45 : (0 : Int32).toInt = 0 := rfl
          have w_I44 : WD Z31 I44 := by rw [eI44]; exact WD_putF w_I29 12 21 k32 (by decide) (by decide) (by constructor <;> omega)
          have f_I44 : FR [(12, 21)] Z31 I29 Z31 I44 := by rw [eI44]; exact FR_putF k32 (by decide) List.mem_cons_self
          have q_I44 : FR Ws_X12_trod Z I Z31 I44 := q_I29.trans w_I.1 w_I.2.1 (f_I44.mono (by decide))
          have u46 : (I44 v0 22).toInt = (I29 v0 22).toInt := by rw [f_I44.2.2.1 v0 12 22 k32 (by decide) (by decide)]
          first | (have u47 : (I44 v0 21).toInt = (0) := by (rw [eI44, show jpI I29 v0 21 (0 : Int32) v0 21 = (0 : Int32) from jpI_at] <;> exact (show (0 : Int32).toInt = 0 from rfl))) | skip
          refine s_X12_tellPart w_I44 v0 (r20.toInt64) (r28.toInt64) k32  (by exact l_of (by omega)) (by omega) (fun  I48 L49 w_I48 f_I48  => ?_)
          have q_I48 : FR Ws_X12_trod Z I Z31 I48 := q_I44.trans w_I.1 w_I.2.1 (f_I48.mono (by decide))
          have u50 : (I48 v0 22).toInt = (I44 v0 22).toInt := by rw [f_I48.2.2.1 v0 12 22 k32 (by decide) (by decide)]
          have t51 : (0 : Int32).toInt = 0 := rfl
          exact hQ (0 : Int32) Z31 I48 L49 w_I48 bd_Z31 q_I48 cp_Z31 
        · skip
          first | (have t52 : r28.toInt = (0) := (i_eq rfl (show (0 : Int32).toInt = 0 from rfl)).mp c42) | (have t52 : r28.toInt = (0 : Int32).toInt := (i_eq rfl rfl).mp c42) | skip
          have t53 : (-2 : Int32).toInt = -2 := rfl
          exact hQ (-2 : Int32) Z31 I29 L30 w_I29 bd_Z31 q_I29 cp_Z31 
      · skip
        first | (have t54 : r16.toInt = (0) := (i_eq rfl (show (0 : Int32).toInt = 0 from rfl)).mp c18) | (have t54 : r16.toInt = (0 : Int32).toInt := (i_eq rfl rfl).mp c18) | skip
        have t55 : (-1 : Int32).toInt = -1 := rfl
        exact hQ (-1 : Int32) Z I1 L w_I1 bd_Z q_I1 cp_Z 
def Ws_X12_who : List (Nat × Nat) := [(12, 22), (12, 24), (12, 25), (12, 26), (12, 27), (12, 31), (12, 32), (12, 33), (12, 34), (12, 37), (12, 38), (12, 39), (12, 45), (12, 46), (12, 47)]
set_option maxHeartbeats 4000000 in
set_option maxRecDepth 100000 in
theorem l_X12_who_L27 {B : Nat × Nat} {T : Nat} {Z0 : jZ} {I0 : jI} {Q : Int32 → jZ → jI → jL → Prop} (w0 : WD Z0 I0) (v0 : Nat) (v1 : Int32) (v2 : Int32) (kv0 : jk Z0 v0 12) (hQ : ∀ (r : Int32) (Z' : jZ) (I' : jI) (L' : jL), WD Z' I' → BUD B Z' T → FR Ws_X12_who Z0 I0 Z' I' → CP Z0 Z' → Q r Z' I' L') : ∀ (n : Nat) (v3 : Int32) (v4 : Int32) (Z : jZ) (I : jI) (L : jL), WD Z I → BUD B Z T → FR Ws_X12_who Z0 I0 Z I → CP Z0 Z →   (0 ≤ v4.toInt ∧ v4.toInt ≤ 6 ∧ 0 ≤ v1.toInt ∧ v1.toInt ≤ 999 ∧ 0 ≤ v2.toInt ∧ v2.toInt ≤ 23) → 6 - v4.toInt < (n : Int) → f_X12_who_L27 B  Q n v0 v1 v2 v3 v4 Z I L := by
  intro n
  induction n with
  | zero =>
    intro v3 v4 Z I L w_I bd_Z q_I cp_Z   li  me
    exfalso
    omega
  | succ n ih =>
    intro v3 v4 Z I L w_I bd_Z q_I cp_Z   li  me
    unfold f_X12_who_L27
    have rv3 := i_rng v3
    have rv4 := i_rng v4
    have rv1 := i_rng v1
    have rv2 := i_rng v2
    have kv0_0 := kv0
    have kv0 := (q_I.1 _ _ kv0).1
    have xq_I := q_I.1
    have t2 : 0 ≤ (I v0 8).toInt ∧ (I v0 8).toInt ≤ 6 := w_I.fld 12 8 kv0 (by decide)
    refine ⟨fun c3 => ?_, fun c3 => ?_⟩
    · skip
      first | (have t4 : (I v0 8).toInt ≤ v4.toInt := (i_le rfl rfl).mp c3) | (have t4 : (I v0 8).toInt ≤ v4.toInt := (i_le rfl rfl).mp c3) | skip
      exact hQ v3 Z I L w_I bd_Z q_I cp_Z 
    · skip
      first | (have t5 : ¬ ((I v0 8).toInt ≤ v4.toInt) := (not_congr (i_le rfl rfl)).mp c3) | (have t5 : ¬ ((I v0 8).toInt ≤ v4.toInt) := (not_congr (i_le rfl rfl)).mp c3) | skip
      refine s_X12_countTreading w_I bd_Z v0 v4 v1 v2 kv0  (by omega) (fun r6 Z9 I7 L8 w_I7 bd_Z9 f_I7 c_Z9  => ?_)
      have q_I7 : FR Ws_X12_who Z0 I0 Z9 I7 := q_I.trans w0.1 w0.2.1 (f_I7.mono (by decide))
      have cp_Z9 : CP Z0 Z9 := cp_Z.trans q_I.1 c_Z9
      have x_Z9 := f_I7.1
      have k10 := (f_I7.1 _ _ kv0).1
      have u11 : (I7 v0 8).toInt = (I v0 8).toInt := by rw [f_I7.2.2.1 v0 12 8 kv0 (by decide) (by decide)]
      have rr6 := i_rng r6
      refine ⟨fun c12 => ?_, fun c12 => ?_⟩
      · skip
        first | (have t13 : r6.toInt ≤ (0) := (i_le rfl (show (0 : Int32).toInt = 0 from rfl)).mp c12) | (have t13 : r6.toInt ≤ (0 : Int32).toInt := (i_le rfl rfl).mp c12) | skip
        unfold f_X12_who_b56
        intro x14 ex14
        have rx14 := i_rng x14
        first | (have tx14 : x14.toInt = (v3 ||| (0 : Int32)).toInt := by (rw [ex14]; exact rfl)) | (have tx14 : x14.toInt = (v3 ||| (0 : Int32)).toInt := by rw [ex14])
        intro x15 ex15
        have rx15 := i_rng x15
        first | (have tx15 : x15.toInt = v4.toInt + (1) := by (rw [ex15]; exact (i_add rfl (show (1 : Int32).toInt = 1 from rfl) (by omega) (by omega)))) | skip
        exact ih x14 x15 Z9 I7 L8 w_I7 bd_Z9 q_I7 cp_Z9   (by omega)  (by omega)
      · skip
        first | (have t16 : ¬ (r6.toInt ≤ (0)) := (not_congr (i_le rfl (show (0 : Int32).toInt = 0 from rfl))).mp c12) | (have t16 : ¬ (r6.toInt ≤ (0 : Int32).toInt) := (not_congr (i_le rfl rfl)).mp c12) | skip
        unfold f_X12_who_b56
        intro x17 ex17
        have rx17 := i_rng x17
        first | (have tx17 : x17.toInt = (v3 ||| ((1 : Int32) <<< (v4 &&& 31))).toInt := by (rw [ex17]; exact rfl)) | (have tx17 : x17.toInt = (v3 ||| ((1 : Int32) <<< (v4 &&& 31))).toInt := by rw [ex17])
        intro x18 ex18
        have rx18 := i_rng x18
        first | (have tx18 : x18.toInt = v4.toInt + (1) := by (rw [ex18]; exact (i_add rfl (show (1 : Int32).toInt = 1 from rfl) (by omega) (by omega)))) | skip
        exact ih x17 x18 Z9 I7 L8 w_I7 bd_Z9 q_I7 cp_Z9   (by omega)  (by omega)
set_option maxHeartbeats 4000000 in
set_option maxRecDepth 100000 in
theorem s_X12_who {B : Nat × Nat} {T : Nat} {Z : jZ} {I : jI} {L : jL} (w_I : WD Z I) (bd_Z : BUD B Z T) (v0 : Nat) (v1 : Int32) (v2 : Int32) (kv0 : jk Z v0 12) {Q : Int32 → jZ → jI → jL → Prop} (hQ : ∀ (r : Int32) (Z' : jZ) (I' : jI) (L' : jL), WD Z' I' → BUD B Z' T → FR Ws_X12_who Z I Z' I' → CP Z Z' → Q r Z' I' L') : f_X12_who B v0 v1 v2 Z I L Q := by
  unfold f_X12_who
  have q_I : FR Ws_X12_who Z I Z I := FR.rf
  have cp_Z : CP Z Z := CP.rf
  have rv1 := i_rng v1
  have rv2 := i_rng v2
  intro I19 eI19
  have t20 : (0 : Int32).toInt = 0 := rfl
  have w_I19 : WD Z I19 := by rw [eI19]; exact WD_putF w_I 12 22 kv0 (by decide) (by decide) trivial
  have f_I19 : FR [(12, 22)] Z I Z I19 := by rw [eI19]; exact FR_putF kv0 (by decide) List.mem_cons_self
  have q_I19 : FR Ws_X12_who Z I Z I19 := q_I.trans w_I.1 w_I.2.1 (f_I19.mono (by decide))
  first | (have u21 : (I19 v0 22).toInt = (0) := by (rw [eI19, show jpI I v0 22 (0 : Int32) v0 22 = (0 : Int32) from jpI_at] <;> exact (show (0 : Int32).toInt = 0 from rfl))) | skip
  refine s_X12_isCost w_I19 v1    (fun r22 p23 => ?_)
  have rr22 := i_rng r22
  refine ⟨fun c24 => ?_, fun c24 => ?_⟩
  · skip
    first | (have t25 : r22.toInt = (0) := (i_eq rfl (show (0 : Int32).toInt = 0 from rfl)).mp c24) | (have t25 : r22.toInt = (0 : Int32).toInt := (i_eq rfl rfl).mp c24) | skip
    have t26 : (-1 : Int32).toInt = -1 := rfl
    exact hQ (-1 : Int32) Z I19 L w_I19 bd_Z q_I19 cp_Z 
  · skip
    first | (have t27 : ¬ (r22.toInt = (0)) := (not_congr (i_eq rfl (show (0 : Int32).toInt = 0 from rfl))).mp c24) | (have t27 : ¬ (r22.toInt = (0 : Int32).toInt) := (not_congr (i_eq rfl rfl)).mp c24) | skip
    refine s_X12_isStep w_I19 v0 v2 kv0   (fun r28 p29 => ?_)
    have rr28 := i_rng r28
    refine ⟨fun c30 => ?_, fun c30 => ?_⟩
    · skip
      first | (have t31 : ¬ (r28.toInt = (0)) := (not_congr (i_eq rfl (show (0 : Int32).toInt = 0 from rfl))).mp c30) | (have t31 : ¬ (r28.toInt = (0 : Int32).toInt) := (not_congr (i_eq rfl rfl)).mp c30) | skip
      have t32 : (0 : Int32).toInt = 0 := rfl
      have t33 : (0 : Int32).toInt = 0 := rfl
      exact ⟨(6 - (0 : Int32).toInt).toNat + 1, l_X12_who_L27 w_I v0 v1 v2 kv0   hQ   _ (0 : Int32) (0 : Int32) Z I19 L w_I19 bd_Z q_I19 cp_Z   (by omega)  (by omega)⟩
    · skip
      first | (have t34 : r28.toInt = (0) := (i_eq rfl (show (0 : Int32).toInt = 0 from rfl)).mp c30) | (have t34 : r28.toInt = (0 : Int32).toInt := (i_eq rfl rfl).mp c30) | skip
      have t35 : (-1 : Int32).toInt = -1 := rfl
      exact hQ (-1 : Int32) Z I19 L w_I19 bd_Z q_I19 cp_Z 
end
section
def Ws_X12_findByEffort : List (Nat × Nat) := [(12, 40)]
set_option maxHeartbeats 4000000 in
set_option maxRecDepth 100000 in
theorem l_X12_findByEffort_L45 {Z : jZ} {I0 : jI} {Q : jI → jL → Prop} (w0 : WD Z I0) (v0 : Nat) (v1 : Int32) (kv0 : jk Z v0 12) (uC : Nat) (huC : jr Z v0 37 = some uC) (uE : Nat) (huE : jr Z v0 38 = some uE) (uB : Nat) (huB : jr Z v0 40 = some uB) (p0 : MVB (3 * ((I0 v0 0).toInt + 1)) (I0 v0 0).toInt (I0 uC) (I0 uE)) (p1 : 0 ≤ v1.toInt ∧ v1.toInt ≤ 999) (v2 : Int32) (v3 : Int32) (hQ : ∀  (I' : jI) (L' : jL), WD Z I' → FR Ws_X12_findByEffort Z I0 Z I' → DPR (I0 v0 0).toInt v1.toInt (I0 uC) (I0 uE) (I' uB) (-1) 0 → Q I' L') {K7 : Nat → Int32 → Int32 → jI → jL → Prop} {N7 : Int} (hK7 : ∀ (v2 : Int32) (I : jI) (L : jL), WD Z I → FR Ws_X12_findByEffort Z I0 Z I →   ((-2 ≤ v2.toInt ∧ (I0 v0 0).toInt ≤ 24 ∧ v2.toInt < (I0 v0 0).toInt) ∧ DPR (I0 v0 0).toInt v1.toInt (I0 uC) (I0 uE) (I uB) (v2.toInt + 1) 0) → v2.toInt + 2 < N7 → K7 v0 v1 v2 I L) {K14 : Nat → Int32 → Int32 → Int32 → jI → jL → Prop} {N14 : Int} (hK14 : ∀ (v3 : Int32) (I : jI) (L : jL), WD Z I → FR Ws_X12_findByEffort Z I0 Z I →   ((-1 ≤ v2.toInt ∧ (I0 v0 0).toInt ≤ 24 ∧ v2.toInt < (I0 v0 0).toInt ∧ 0 ≤ v3.toInt ∧ v3.toInt ≤ v1.toInt + 1) ∧ DPR (I0 v0 0).toInt v1.toInt (I0 uC) (I0 uE) (I uB) (v2.toInt + 1) v3.toInt) → v2.toInt + 2 ≤ N7 → 1000 - v3.toInt < N14 → K14 v0 v1 v2 v3 I L) : ∀ (n : Nat) (v4 : Int32) (v5 : Int32) (I : jI) (L : jL), WD Z I → FR Ws_X12_findByEffort Z I0 Z I →   ((-1 ≤ v2.toInt ∧ (I0 v0 0).toInt ≤ 24 ∧ v2.toInt < (I0 v0 0).toInt ∧ 0 ≤ v3.toInt ∧ v3.toInt ≤ v1.toInt ∧ 1 ≤ v5.toInt ∧ v5.toInt ≤ 4) ∧ DPR (I0 v0 0).toInt v1.toInt (I0 uC) (I0 uE) (I uB) (v2.toInt + 1) v3.toInt ∧ DP1 (I0 v0 0).toInt (I0 uC) (I0 uE) (I uB) (v2.toInt + 1).toNat v3.toNatClampNeg v4.toInt) → v2.toInt + 2 ≤ N7 → 1000 - v3.toInt ≤ N14 → 4 - v5.toInt < (n : Int) → f_X12_findByEffort_L45 K7 K14 Z Q n v0 v1 v2 v3 v4 v5 I L := by
  intro n
  induction n with
  | zero =>
    intro v4 v5 I L w_I q_I   li hm7 hm14 me
    exfalso
    omega
  | succ n ih =>
    intro v4 v5 I L w_I q_I   li hm7 hm14 me
    unfold f_X12_findByEffort_L45
    have rv4 := i_rng v4
    have rv5 := i_rng v5
    have rv2 := i_rng v2
    have rv3 := i_rng v3
    have rv1 := i_rng v1
    obtain ⟨li0, li1, li2⟩ := li
    have t1 : 0 ≤ (I v0 0).toInt ∧ (I v0 0).toInt ≤ 24 := w_I.fld 12 0 kv0 (by decide)
    have luC : jlen Z uC = 75 := by obtain ⟨b9, e9, -, l9⟩ := sh_f w_I.1 kv0 (j := 37) (k := 14) (m := 75) rfl; cases huC.symm.trans e9; exact l9
    have kuC : jk Z uC 14 := by obtain ⟨b9, e9, k9, -⟩ := sh_f w_I.1 kv0 (j := 37) (k := 14) (m := 75) rfl; cases huC.symm.trans e9; exact k9
    have luE : jlen Z uE = 75 := by obtain ⟨b9, e9, -, l9⟩ := sh_f w_I.1 kv0 (j := 38) (k := 14) (m := 75) rfl; cases huE.symm.trans e9; exact l9
    have kuE : jk Z uE 14 := by obtain ⟨b9, e9, k9, -⟩ := sh_f w_I.1 kv0 (j := 38) (k := 14) (m := 75) rfl; cases huE.symm.trans e9; exact k9
    have luB : jlen Z uB = 25000 := by obtain ⟨b9, e9, -, l9⟩ := sh_f w_I.1 kv0 (j := 40) (k := 14) (m := 25000) rfl; cases huB.symm.trans e9; exact l9
    have kuB : jk Z uB 14 := by obtain ⟨b9, e9, k9, -⟩ := sh_f w_I.1 kv0 (j := 40) (k := 14) (m := 25000) rfl; cases huB.symm.trans e9; exact k9
    have e0 : (I v0 0).toInt = (I0 v0 0).toInt := by rw [q_I.2.2.1 v0 12 0 kv0 (by decide) (by decide)]
    have ec : I uC = I0 uC := q_I.2.2.2 v0 12 37 uC kv0 huC (by rw [kuC.2]; rfl) rfl (by decide)
    have ee : I uE = I0 uE := q_I.2.2.2 v0 12 38 uE kv0 huE (by rw [kuE.2]; rfl) rfl (by decide)
    have mv : MVB (3 * ((I0 v0 0).toInt + 1)) (I0 v0 0).toInt (I uC) (I uE) := by rw [ec, ee]; exact p0
    refine ⟨fun c2 => ?_, fun c2 => ?_⟩
    · skip
      first | (have t3 : (3) < v5.toInt := (i_lt (show (3 : Int32).toInt = 3 from rfl) rfl).mp c2) | (have t3 : (3 : Int32).toInt < v5.toInt := (i_lt rfl rfl).mp c2) | skip
      intro b4 eb4
      obtain rfl : uB = b4 := Option.some.inj (huB.symm.trans eb4)
      have o5 : vp_in (((1000 : Int32) * (v2 + (1 : Int32))) + v3) 25000 := vi_of (i_add (i_mul (show (1000 : Int32).toInt = 1000 from rfl) (i_add rfl (show (1 : Int32).toInt = 1 from rfl) (by omega) (by omega)) (by omega) (by omega)) rfl (by omega) (by omega)) (by omega) (by omega)
      refine ⟨o5, ?_⟩
      intro I6 eI6
      have w_I6 : WD Z I6 := by rw [eI6]; exact WD_putA w_I 12 40 kv0 huB kuB rfl rfl (by decide) trivial
      have ao_I6_uB : ∀ q, q ≠ (((1000 : Int32) * (v2 + (1 : Int32))) + v3).toNatClampNeg → I6 uB q = I uB q := fun q hq => by rw [eI6]; exact jpI_off hq
      first | (have u7 : (I6 uB ((((1000 : Int32) * (v2 + (1 : Int32))) + v3).toNatClampNeg)).toInt = v4.toInt := by (rw [eI6, show jpI I uB (((1000 : Int32) * (v2 + (1 : Int32))) + v3).toNatClampNeg v4 uB (((1000 : Int32) * (v2 + (1 : Int32))) + v3).toNatClampNeg = v4 from jpI_at] <;> exact rfl)) | skip
      have f_I6 : FR [(12, 40)] Z I Z I6 := by rw [eI6]; exact FR_upA w_I.2.1 kv0 huB kuB rfl rfl List.mem_cons_self
      have q_I6 : FR Ws_X12_findByEffort Z I0 Z I6 := q_I.trans w0.1 w0.2.1 (f_I6.mono (by decide))
      have u8 : (I6 v0 0).toInt = (I v0 0).toInt := by rw [f_I6.2.2.1 v0 12 0 kv0 (by decide) (by decide)]
      intro x9 ex9
      have rx9 := i_rng x9
      first | (have tx9 : x9.toInt = v3.toInt + (1) := by (rw [ex9]; exact (i_add rfl (show (1 : Int32).toInt = 1 from rfl) (by omega) (by omega)))) | skip
      exact hK14 x9 I6 L w_I6 q_I6   (by refine ⟨?_, ?_⟩; (omega); first | exact li1 | (have h3 := i_nat (x := v3) rfl (by omega); have h4 := i_nat (x := (((1000 : Int32) * (v2 + (1 : Int32))) + v3)) (i_add (i_mul (show (1000 : Int32).toInt = 1000 from rfl) (i_add rfl (show (1 : Int32).toInt = 1 from rfl) (by omega) (by omega)) (by omega) (by omega)) rfl (by omega) (by omega)) (by omega); exact DPR.step li1 li2 (by omega) (by omega) (by omega) (by omega) (by omega) ao_I6_uB (by assumption) (by omega))) (by omega) (by omega)
    · skip
      first | (have t10 : ¬ ((3) < v5.toInt) := (not_congr (i_lt (show (3 : Int32).toInt = 3 from rfl) rfl)).mp c2) | (have t10 : ¬ ((3 : Int32).toInt < v5.toInt) := (not_congr (i_lt rfl rfl)).mp c2) | skip
      intro x11 ex11
      have rx11 := i_rng x11
      first | (have tx11 : x11.toInt = ((((3) * (v2.toInt + (1))) + v5.toInt) - (1)) := by (rw [ex11]; exact (i_sub (i_add (i_mul (show (3 : Int32).toInt = 3 from rfl) (i_add rfl (show (1 : Int32).toInt = 1 from rfl) (by omega) (by omega)) (by omega) (by omega)) rfl (by omega) (by omega)) (show (1 : Int32).toInt = 1 from rfl) (by omega) (by omega)))) | (have tx11 : x11.toInt = ((((3 : Int32) * (v2 + (1 : Int32))) + v5) - (1 : Int32)).toInt := by rw [ex11])
      intro b12 eb12
      obtain rfl : uC = b12 := Option.some.inj (huC.symm.trans eb12)
      have hm := MVB.at mv (x := x11) rfl (by omega) (by omega)
      have o13 : vp_in x11 75 := vi_of rfl (by omega) (by omega)
      refine ⟨o13, ?_⟩
      refine ⟨fun c14 => ?_, fun c14 => ?_⟩
      · skip
        first | (have t15 : (I uC x11.toNatClampNeg).toInt = (1000000000) := (i_eq rfl (show (1000000000 : Int32).toInt = 1000000000 from rfl)).mp c14) | (have t15 : (I uC x11.toNatClampNeg).toInt = (1000000000 : Int32).toInt := (i_eq rfl rfl).mp c14) | skip
        unfold f_X12_findByEffort_b147
        intro x16 ex16
        have rx16 := i_rng x16
        first | (have tx16 : x16.toInt = v5.toInt + (1) := by (rw [ex16]; exact (i_add rfl (show (1 : Int32).toInt = 1 from rfl) (by omega) (by omega)))) | skip
        exact ih v4 x16 I L w_I q_I   (by refine ⟨?_, ?_, ?_⟩; (omega); (exact li1); first | exact li2 | (have h3 := i_nat (x := v3) rfl (by omega); first | exact Or.inl (by omega) | exact Or.inr ⟨by omega, by omega, Or.inl ⟨by omega, by omega⟩⟩ | (rw [← ec, ← ee] at li2 ⊢; exact DP1.cand li2 (k := x11) (far := v5.toInt) (by omega) (by omega) (by omega) (by omega) (by omega) hsp (by omega) (by omega) (by omega) (by omega)))) (by omega) (by omega) (by omega)
      · skip
        first | (have t17 : ¬ ((I uC x11.toNatClampNeg).toInt = (1000000000)) := (not_congr (i_eq rfl (show (1000000000 : Int32).toInt = 1000000000 from rfl))).mp c14) | (have t17 : ¬ ((I uC x11.toNatClampNeg).toInt = (1000000000 : Int32).toInt) := (not_congr (i_eq rfl rfl)).mp c14) | skip
        intro b18 eb18
        obtain rfl : uE = b18 := Option.some.inj (huE.symm.trans eb18)
        have o19 : vp_in x11 75 := vi_of rfl (by omega) (by omega)
        refine ⟨o19, ?_⟩
        refine ⟨fun c20 => ?_, fun c20 => ?_⟩
        · skip
          first | (have t21 : (I uE x11.toNatClampNeg).toInt ≤ v3.toInt := (i_le rfl rfl).mp c20) | (have t21 : (I uE x11.toNatClampNeg).toInt ≤ v3.toInt := (i_le rfl rfl).mp c20) | skip
          intro b22 eb22
          obtain rfl : uB = b22 := Option.some.inj (huB.symm.trans eb22)
          intro b23 eb23
          obtain rfl : uE = b23 := Option.some.inj (huE.symm.trans eb23)
          have o24 : vp_in x11 75 := vi_of rfl (by omega) (by omega)
          refine ⟨o24, ?_⟩
          have hd := DPR.at li1 (x := ((((1000 : Int32) * ((v2 + v5) + (1 : Int32))) + v3) - (I uE x11.toNatClampNeg))) (i_sub (i_add (i_mul (show (1000 : Int32).toInt = 1000 from rfl) (i_add (i_add rfl rfl (by omega) (by omega)) (show (1 : Int32).toInt = 1 from rfl) (by omega) (by omega)) (by omega) (by omega)) rfl (by omega) (by omega)) rfl (by omega) (by omega)) (v2.toInt + v5.toInt + 1) (v3.toInt - (I uE x11.toNatClampNeg).toInt) (by omega) (by omega) (by omega)
          have hsp : ((((1000 : Int32) * ((v2 + v5) + (1 : Int32))) + v3) - (I uE x11.toNatClampNeg)).toInt = ((((1000) * ((v2.toInt + v5.toInt) + (1))) + v3.toInt) - (I uE x11.toNatClampNeg).toInt) := (i_sub (i_add (i_mul (show (1000 : Int32).toInt = 1000 from rfl) (i_add (i_add rfl rfl (by omega) (by omega)) (show (1 : Int32).toInt = 1 from rfl) (by omega) (by omega)) (by omega) (by omega)) rfl (by omega) (by omega)) rfl (by omega) (by omega))
          have o25 : vp_in ((((1000 : Int32) * ((v2 + v5) + (1 : Int32))) + v3) - (I uE x11.toNatClampNeg)) 25000 := vi_of (i_sub (i_add (i_mul (show (1000 : Int32).toInt = 1000 from rfl) (i_add (i_add rfl rfl (by omega) (by omega)) (show (1 : Int32).toInt = 1 from rfl) (by omega) (by omega)) (by omega) (by omega)) rfl (by omega) (by omega)) rfl (by omega) (by omega)) (by omega) (by omega)
          refine ⟨o25, ?_⟩
          intro x26 ex26
          have rx26 := i_rng x26
          first | (have tx26 : x26.toInt = (I uB ((((1000 : Int32) * ((v2 + v5) + (1 : Int32))) + v3) - (I uE x11.toNatClampNeg)).toNatClampNeg).toInt := by (rw [ex26]; exact rfl)) | (have tx26 : x26.toInt = (I uB ((((1000 : Int32) * ((v2 + v5) + (1 : Int32))) + v3) - (I uE x11.toNatClampNeg)).toNatClampNeg).toInt := by rw [ex26])
          refine ⟨fun c27 => ?_, fun c27 => ?_⟩
          · skip
            first | (have t28 : x26.toInt = (1000000000) := (i_eq rfl (show (1000000000 : Int32).toInt = 1000000000 from rfl)).mp c27) | (have t28 : x26.toInt = (1000000000 : Int32).toInt := (i_eq rfl rfl).mp c27) | skip
            unfold f_X12_findByEffort_b147
            intro x29 ex29
            have rx29 := i_rng x29
            first | (have tx29 : x29.toInt = v5.toInt + (1) := by (rw [ex29]; exact (i_add rfl (show (1 : Int32).toInt = 1 from rfl) (by omega) (by omega)))) | skip
            exact ih v4 x29 I L w_I q_I   (by refine ⟨?_, ?_, ?_⟩; (omega); (exact li1); first | exact li2 | (have h3 := i_nat (x := v3) rfl (by omega); first | exact Or.inl (by omega) | exact Or.inr ⟨by omega, by omega, Or.inl ⟨by omega, by omega⟩⟩ | (rw [← ec, ← ee] at li2 ⊢; exact DP1.cand li2 (k := x11) (far := v5.toInt) (by omega) (by omega) (by omega) (by omega) (by omega) hsp (by omega) (by omega) (by omega) (by omega)))) (by omega) (by omega) (by omega)
          · skip
            first | (have t30 : ¬ (x26.toInt = (1000000000)) := (not_congr (i_eq rfl (show (1000000000 : Int32).toInt = 1000000000 from rfl))).mp c27) | (have t30 : ¬ (x26.toInt = (1000000000 : Int32).toInt) := (not_congr (i_eq rfl rfl)).mp c27) | skip
            intro b31 eb31
            obtain rfl : uC = b31 := Option.some.inj (huC.symm.trans eb31)
            have o32 : vp_in x11 75 := vi_of rfl (by omega) (by omega)
            refine ⟨o32, ?_⟩
            intro x33 ex33
            have rx33 := i_rng x33
            first | (have tx33 : x33.toInt = (min v4.toInt ((x26.toInt + ((100) * (I uC x11.toNatClampNeg).toInt)) + (1))) := by (rw [ex33]; exact (i_min rfl (i_add (i_add rfl (i_mul (show (100 : Int32).toInt = 100 from rfl) rfl (by omega) (by omega)) (by omega) (by omega)) (show (1 : Int32).toInt = 1 from rfl) (by omega) (by omega))))) | (have tx33 : x33.toInt = (if ((x26 + ((100 : Int32) * (I uC x11.toNatClampNeg))) + (1 : Int32)) < v4 then ((x26 + ((100 : Int32) * (I uC x11.toNatClampNeg))) + (1 : Int32)) else v4).toInt := by rw [ex33])
            unfold f_X12_findByEffort_b147
            intro x34 ex34
            have rx34 := i_rng x34
            first | (have tx34 : x34.toInt = v5.toInt + (1) := by (rw [ex34]; exact (i_add rfl (show (1 : Int32).toInt = 1 from rfl) (by omega) (by omega)))) | skip
            exact ih x33 x34 I L w_I q_I   (by refine ⟨?_, ?_, ?_⟩; (omega); (exact li1); first | exact li2 | (have h3 := i_nat (x := v3) rfl (by omega); first | exact Or.inl (by omega) | exact Or.inr ⟨by omega, by omega, Or.inl ⟨by omega, by omega⟩⟩ | (rw [← ec, ← ee] at li2 ⊢; exact DP1.cand li2 (k := x11) (far := v5.toInt) (by omega) (by omega) (by omega) (by omega) (by omega) hsp (by omega) (by omega) (by omega) (by omega)))) (by omega) (by omega) (by omega)
        · skip
          first | (have t35 : ¬ ((I uE x11.toNatClampNeg).toInt ≤ v3.toInt) := (not_congr (i_le rfl rfl)).mp c20) | (have t35 : ¬ ((I uE x11.toNatClampNeg).toInt ≤ v3.toInt) := (not_congr (i_le rfl rfl)).mp c20) | skip
          unfold f_X12_findByEffort_b147
          intro x36 ex36
          have rx36 := i_rng x36
          first | (have tx36 : x36.toInt = v5.toInt + (1) := by (rw [ex36]; exact (i_add rfl (show (1 : Int32).toInt = 1 from rfl) (by omega) (by omega)))) | skip
          exact ih v4 x36 I L w_I q_I   (by refine ⟨?_, ?_, ?_⟩; (omega); (exact li1); first | exact li2 | (have h3 := i_nat (x := v3) rfl (by omega); first | exact Or.inl (by omega) | exact Or.inr ⟨by omega, by omega, Or.inl ⟨by omega, by omega⟩⟩ | (rw [← ec, ← ee] at li2 ⊢; exact DP1.cand li2 (k := x11) (far := v5.toInt) (by omega) (by omega) (by omega) (by omega) (by omega) hsp (by omega) (by omega) (by omega) (by omega)))) (by omega) (by omega) (by omega)
set_option maxHeartbeats 4000000 in
set_option maxRecDepth 100000 in
theorem l_X12_findByEffort_L14 {Z : jZ} {I0 : jI} {Q : jI → jL → Prop} (w0 : WD Z I0) (v0 : Nat) (v1 : Int32) (kv0 : jk Z v0 12) (uC : Nat) (huC : jr Z v0 37 = some uC) (uE : Nat) (huE : jr Z v0 38 = some uE) (uB : Nat) (huB : jr Z v0 40 = some uB) (p0 : MVB (3 * ((I0 v0 0).toInt + 1)) (I0 v0 0).toInt (I0 uC) (I0 uE)) (p1 : 0 ≤ v1.toInt ∧ v1.toInt ≤ 999) (v2 : Int32) (hQ : ∀  (I' : jI) (L' : jL), WD Z I' → FR Ws_X12_findByEffort Z I0 Z I' → DPR (I0 v0 0).toInt v1.toInt (I0 uC) (I0 uE) (I' uB) (-1) 0 → Q I' L') {K7 : Nat → Int32 → Int32 → jI → jL → Prop} {N7 : Int} (hK7 : ∀ (v2 : Int32) (I : jI) (L : jL), WD Z I → FR Ws_X12_findByEffort Z I0 Z I →   ((-2 ≤ v2.toInt ∧ (I0 v0 0).toInt ≤ 24 ∧ v2.toInt < (I0 v0 0).toInt) ∧ DPR (I0 v0 0).toInt v1.toInt (I0 uC) (I0 uE) (I uB) (v2.toInt + 1) 0) → v2.toInt + 2 < N7 → K7 v0 v1 v2 I L) : ∀ (n : Nat) (v3 : Int32) (I : jI) (L : jL), WD Z I → FR Ws_X12_findByEffort Z I0 Z I →   ((-1 ≤ v2.toInt ∧ (I0 v0 0).toInt ≤ 24 ∧ v2.toInt < (I0 v0 0).toInt ∧ 0 ≤ v3.toInt ∧ v3.toInt ≤ v1.toInt + 1) ∧ DPR (I0 v0 0).toInt v1.toInt (I0 uC) (I0 uE) (I uB) (v2.toInt + 1) v3.toInt) → v2.toInt + 2 ≤ N7 → 1000 - v3.toInt < (n : Int) → f_X12_findByEffort_L14 K7 Z Q n v0 v1 v2 v3 I L := by
  intro n
  induction n with
  | zero =>
    intro v3 I L w_I q_I   li hm7 me
    exfalso
    omega
  | succ n ih =>
    intro v3 I L w_I q_I   li hm7 me
    unfold f_X12_findByEffort_L14
    have rv3 := i_rng v3
    have rv2 := i_rng v2
    have rv1 := i_rng v1
    obtain ⟨li0, li1⟩ := li
    have t37 : 0 ≤ (I v0 0).toInt ∧ (I v0 0).toInt ≤ 24 := w_I.fld 12 0 kv0 (by decide)
    have luC : jlen Z uC = 75 := by obtain ⟨b9, e9, -, l9⟩ := sh_f w_I.1 kv0 (j := 37) (k := 14) (m := 75) rfl; cases huC.symm.trans e9; exact l9
    have kuC : jk Z uC 14 := by obtain ⟨b9, e9, k9, -⟩ := sh_f w_I.1 kv0 (j := 37) (k := 14) (m := 75) rfl; cases huC.symm.trans e9; exact k9
    have luE : jlen Z uE = 75 := by obtain ⟨b9, e9, -, l9⟩ := sh_f w_I.1 kv0 (j := 38) (k := 14) (m := 75) rfl; cases huE.symm.trans e9; exact l9
    have kuE : jk Z uE 14 := by obtain ⟨b9, e9, k9, -⟩ := sh_f w_I.1 kv0 (j := 38) (k := 14) (m := 75) rfl; cases huE.symm.trans e9; exact k9
    have luB : jlen Z uB = 25000 := by obtain ⟨b9, e9, -, l9⟩ := sh_f w_I.1 kv0 (j := 40) (k := 14) (m := 25000) rfl; cases huB.symm.trans e9; exact l9
    have kuB : jk Z uB 14 := by obtain ⟨b9, e9, k9, -⟩ := sh_f w_I.1 kv0 (j := 40) (k := 14) (m := 25000) rfl; cases huB.symm.trans e9; exact k9
    have e0 : (I v0 0).toInt = (I0 v0 0).toInt := by rw [q_I.2.2.1 v0 12 0 kv0 (by decide) (by decide)]
    have ec : I uC = I0 uC := q_I.2.2.2 v0 12 37 uC kv0 huC (by rw [kuC.2]; rfl) rfl (by decide)
    have ee : I uE = I0 uE := q_I.2.2.2 v0 12 38 uE kv0 huE (by rw [kuE.2]; rfl) rfl (by decide)
    have mv : MVB (3 * ((I0 v0 0).toInt + 1)) (I0 v0 0).toInt (I uC) (I uE) := by rw [ec, ee]; exact p0
    refine ⟨fun c38 => ?_, fun c38 => ?_⟩
    · skip
      first | (have t39 : v1.toInt < v3.toInt := (i_lt rfl rfl).mp c38) | (have t39 : v1.toInt < v3.toInt := (i_lt rfl rfl).mp c38) | skip
      intro x40 ex40
      have rx40 := i_rng x40
      first | (have tx40 : x40.toInt = v2.toInt + (-1) := by (rw [ex40]; exact (i_add rfl (show (-1 : Int32).toInt = -1 from rfl) (by omega) (by omega)))) | skip
      exact hK7 x40 I L w_I q_I   (by refine ⟨?_, ?_⟩; (omega); first | exact DPR.zero (by omega) | exact DPR.next li1 (by omega) (by omega))  (by omega)
    · skip
      first | (have t41 : ¬ (v1.toInt < v3.toInt) := (not_congr (i_lt rfl rfl)).mp c38) | (have t41 : ¬ (v1.toInt < v3.toInt) := (not_congr (i_lt rfl rfl)).mp c38) | skip
      have t43 : 0 ≤ (I v0 0).toInt ∧ (I v0 0).toInt ≤ 24 := w_I.fld 12 0 kv0 (by decide)
      refine ⟨fun c44 => ?_, fun c44 => ?_⟩
      · skip
        first | (have t45 : ¬ (v2.toInt = ((I v0 0).toInt - (1))) := (not_congr (i_eq rfl (i_sub rfl (show (1 : Int32).toInt = 1 from rfl) (by omega) (by omega)))).mp c44) | (have t45 : ¬ (v2.toInt = ((I v0 0) - (1 : Int32)).toInt) := (not_congr (i_eq rfl rfl)).mp c44) | skip
        unfold f_X12_findByEffort_b37
        unfold f_X12_findByEffort_b40
        have t46 : (1000000000 : Int32).toInt = 1000000000 := rfl
        have t47 : (1 : Int32).toInt = 1 := rfl
        exact ⟨(4 - (1 : Int32).toInt).toNat + 1, l_X12_findByEffort_L45 w0 v0 v1 kv0 uC huC uE huE uB huB p0 p1 v2 v3  hQ hK7 ih  _ (1000000000 : Int32) (1 : Int32) I L w_I q_I   (by refine ⟨?_, ?_, ?_⟩; (omega); (exact li1); first | exact li2 | (have h3 := i_nat (x := v3) rfl (by omega); first | exact Or.inl (by omega) | exact Or.inr ⟨by omega, by omega, Or.inl ⟨by omega, by omega⟩⟩ | (rw [← ec, ← ee] at li2 ⊢; exact DP1.cand li2 (k := x11) (far := v5.toInt) (by omega) (by omega) (by omega) (by omega) (by omega) hsp (by omega) (by omega) (by omega) (by omega)))) (by omega) (by omega) (by omega)⟩
      · skip
        first | (have t48 : v2.toInt = ((I v0 0).toInt - (1)) := (i_eq rfl (i_sub rfl (show (1 : Int32).toInt = 1 from rfl) (by omega) (by omega))).mp c44) | (have t48 : v2.toInt = ((I v0 0) - (1 : Int32)).toInt := (i_eq rfl rfl).mp c44) | skip
        refine ⟨fun c49 => ?_, fun c49 => ?_⟩
        · skip
          first | (have t50 : ¬ (v3.toInt = (0)) := (not_congr (i_eq rfl (show (0 : Int32).toInt = 0 from rfl))).mp c49) | (have t50 : ¬ (v3.toInt = (0 : Int32).toInt) := (not_congr (i_eq rfl rfl)).mp c49) | skip
          unfold f_X12_findByEffort_b37
          unfold f_X12_findByEffort_b40
          have t51 : (1000000000 : Int32).toInt = 1000000000 := rfl
          have t52 : (1 : Int32).toInt = 1 := rfl
          exact ⟨(4 - (1 : Int32).toInt).toNat + 1, l_X12_findByEffort_L45 w0 v0 v1 kv0 uC huC uE huE uB huB p0 p1 v2 v3  hQ hK7 ih  _ (1000000000 : Int32) (1 : Int32) I L w_I q_I   (by refine ⟨?_, ?_, ?_⟩; (omega); (exact li1); first | exact li2 | (have h3 := i_nat (x := v3) rfl (by omega); first | exact Or.inl (by omega) | exact Or.inr ⟨by omega, by omega, Or.inl ⟨by omega, by omega⟩⟩ | (rw [← ec, ← ee] at li2 ⊢; exact DP1.cand li2 (k := x11) (far := v5.toInt) (by omega) (by omega) (by omega) (by omega) (by omega) hsp (by omega) (by omega) (by omega) (by omega)))) (by omega) (by omega) (by omega)⟩
        · skip
          first | (have t53 : v3.toInt = (0) := (i_eq rfl (show (0 : Int32).toInt = 0 from rfl)).mp c49) | (have t53 : v3.toInt = (0 : Int32).toInt := (i_eq rfl rfl).mp c49) | skip
          unfold f_X12_findByEffort_b40
          have t54 : (0 : Int32).toInt = 0 := rfl
          have t55 : (1 : Int32).toInt = 1 := rfl
          exact ⟨(4 - (1 : Int32).toInt).toNat + 1, l_X12_findByEffort_L45 w0 v0 v1 kv0 uC huC uE huE uB huB p0 p1 v2 v3  hQ hK7 ih  _ (0 : Int32) (1 : Int32) I L w_I q_I   (by refine ⟨?_, ?_, ?_⟩; (omega); (exact li1); first | exact li2 | (have h3 := i_nat (x := v3) rfl (by omega); first | exact Or.inl (by omega) | exact Or.inr ⟨by omega, by omega, Or.inl ⟨by omega, by omega⟩⟩ | (rw [← ec, ← ee] at li2 ⊢; exact DP1.cand li2 (k := x11) (far := v5.toInt) (by omega) (by omega) (by omega) (by omega) (by omega) hsp (by omega) (by omega) (by omega) (by omega)))) (by omega) (by omega) (by omega)⟩
set_option maxHeartbeats 4000000 in
set_option maxRecDepth 100000 in
theorem l_X12_findByEffort_L7 {Z : jZ} {I0 : jI} {Q : jI → jL → Prop} (w0 : WD Z I0) (v0 : Nat) (v1 : Int32) (kv0 : jk Z v0 12) (uC : Nat) (huC : jr Z v0 37 = some uC) (uE : Nat) (huE : jr Z v0 38 = some uE) (uB : Nat) (huB : jr Z v0 40 = some uB) (p0 : MVB (3 * ((I0 v0 0).toInt + 1)) (I0 v0 0).toInt (I0 uC) (I0 uE)) (p1 : 0 ≤ v1.toInt ∧ v1.toInt ≤ 999) (hQ : ∀  (I' : jI) (L' : jL), WD Z I' → FR Ws_X12_findByEffort Z I0 Z I' → DPR (I0 v0 0).toInt v1.toInt (I0 uC) (I0 uE) (I' uB) (-1) 0 → Q I' L') : ∀ (n : Nat) (v2 : Int32) (I : jI) (L : jL), WD Z I → FR Ws_X12_findByEffort Z I0 Z I →   ((-2 ≤ v2.toInt ∧ (I0 v0 0).toInt ≤ 24 ∧ v2.toInt < (I0 v0 0).toInt) ∧ DPR (I0 v0 0).toInt v1.toInt (I0 uC) (I0 uE) (I uB) (v2.toInt + 1) 0) → v2.toInt + 2 < (n : Int) → f_X12_findByEffort_L7  Z Q n v0 v1 v2 I L := by
  intro n
  induction n with
  | zero =>
    intro v2 I L w_I q_I   li  me
    exfalso
    omega
  | succ n ih =>
    intro v2 I L w_I q_I   li  me
    unfold f_X12_findByEffort_L7
    have rv2 := i_rng v2
    have rv1 := i_rng v1
    obtain ⟨li0, li1⟩ := li
    have t56 : 0 ≤ (I v0 0).toInt ∧ (I v0 0).toInt ≤ 24 := w_I.fld 12 0 kv0 (by decide)
    have luC : jlen Z uC = 75 := by obtain ⟨b9, e9, -, l9⟩ := sh_f w_I.1 kv0 (j := 37) (k := 14) (m := 75) rfl; cases huC.symm.trans e9; exact l9
    have kuC : jk Z uC 14 := by obtain ⟨b9, e9, k9, -⟩ := sh_f w_I.1 kv0 (j := 37) (k := 14) (m := 75) rfl; cases huC.symm.trans e9; exact k9
    have luE : jlen Z uE = 75 := by obtain ⟨b9, e9, -, l9⟩ := sh_f w_I.1 kv0 (j := 38) (k := 14) (m := 75) rfl; cases huE.symm.trans e9; exact l9
    have kuE : jk Z uE 14 := by obtain ⟨b9, e9, k9, -⟩ := sh_f w_I.1 kv0 (j := 38) (k := 14) (m := 75) rfl; cases huE.symm.trans e9; exact k9
    have luB : jlen Z uB = 25000 := by obtain ⟨b9, e9, -, l9⟩ := sh_f w_I.1 kv0 (j := 40) (k := 14) (m := 25000) rfl; cases huB.symm.trans e9; exact l9
    have kuB : jk Z uB 14 := by obtain ⟨b9, e9, k9, -⟩ := sh_f w_I.1 kv0 (j := 40) (k := 14) (m := 25000) rfl; cases huB.symm.trans e9; exact k9
    have e0 : (I v0 0).toInt = (I0 v0 0).toInt := by rw [q_I.2.2.1 v0 12 0 kv0 (by decide) (by decide)]
    have ec : I uC = I0 uC := q_I.2.2.2 v0 12 37 uC kv0 huC (by rw [kuC.2]; rfl) rfl (by decide)
    have ee : I uE = I0 uE := q_I.2.2.2 v0 12 38 uE kv0 huE (by rw [kuE.2]; rfl) rfl (by decide)
    have mv : MVB (3 * ((I0 v0 0).toInt + 1)) (I0 v0 0).toInt (I uC) (I uE) := by rw [ec, ee]; exact p0
    refine ⟨fun c57 => ?_, fun c57 => ?_⟩
    · skip
      first | (have t58 : v2.toInt < (-1) := (i_lt rfl (show (-1 : Int32).toInt = -1 from rfl)).mp c57) | (have t58 : v2.toInt < (-1 : Int32).toInt := (i_lt rfl rfl).mp c57) | skip
      exact hQ  I L w_I q_I (by have e9 : v2.toInt + 1 = -1 := (by omega); rw [e9] at li1; exact li1)
    · skip
      first | (have t59 : ¬ (v2.toInt < (-1)) := (not_congr (i_lt rfl (show (-1 : Int32).toInt = -1 from rfl))).mp c57) | (have t59 : ¬ (v2.toInt < (-1 : Int32).toInt) := (not_congr (i_lt rfl rfl)).mp c57) | skip
      have t60 : (0 : Int32).toInt = 0 := rfl
      exact ⟨(1000 - (0 : Int32).toInt).toNat + 1, l_X12_findByEffort_L14 w0 v0 v1 kv0 uC huC uE huE uB huB p0 p1 v2  hQ ih  _ (0 : Int32) I L w_I q_I   (by refine ⟨?_, ?_⟩; (omega); first | exact li1 | (have h3 := i_nat (x := v3) rfl (by omega); have h4 := i_nat (x := 0) rfl (by omega); exact DPR.step li1 li2 (by omega) (by omega) (by omega) (by omega) (by omega) (fun _ _ => rfl) (by assumption) (by omega))) (by omega) (by omega)⟩
set_option maxHeartbeats 4000000 in
set_option maxRecDepth 100000 in
theorem s_X12_findByEffort {Z : jZ} {I : jI} {L : jL} (w_I : WD Z I) (v0 : Nat) (v1 : Int32) (kv0 : jk Z v0 12) (uC : Nat) (huC : jr Z v0 37 = some uC) (uE : Nat) (huE : jr Z v0 38 = some uE) (uB : Nat) (huB : jr Z v0 40 = some uB) (p0 : MVB (3 * ((I v0 0).toInt + 1)) (I v0 0).toInt (I uC) (I uE)) (p1 : 0 ≤ v1.toInt ∧ v1.toInt ≤ 999) {Q : jI → jL → Prop} (hQ : ∀  (I' : jI) (L' : jL), WD Z I' → FR Ws_X12_findByEffort Z I Z I' → DPR (I v0 0).toInt v1.toInt (I uC) (I uE) (I' uB) (-1) 0 → Q I' L') : f_X12_findByEffort v0 v1 Z I L Q := by
  unfold f_X12_findByEffort
  have q_I : FR Ws_X12_findByEffort Z I Z I := FR.rf
  have rv1 := i_rng v1
  have t61 : 0 ≤ (I v0 0).toInt ∧ (I v0 0).toInt ≤ 24 := w_I.fld 12 0 kv0 (by decide)
  have luC : jlen Z uC = 75 := by obtain ⟨b9, e9, -, l9⟩ := sh_f w_I.1 kv0 (j := 37) (k := 14) (m := 75) rfl; cases huC.symm.trans e9; exact l9
  have kuC : jk Z uC 14 := by obtain ⟨b9, e9, k9, -⟩ := sh_f w_I.1 kv0 (j := 37) (k := 14) (m := 75) rfl; cases huC.symm.trans e9; exact k9
  have luE : jlen Z uE = 75 := by obtain ⟨b9, e9, -, l9⟩ := sh_f w_I.1 kv0 (j := 38) (k := 14) (m := 75) rfl; cases huE.symm.trans e9; exact l9
  have kuE : jk Z uE 14 := by obtain ⟨b9, e9, k9, -⟩ := sh_f w_I.1 kv0 (j := 38) (k := 14) (m := 75) rfl; cases huE.symm.trans e9; exact k9
  have luB : jlen Z uB = 25000 := by obtain ⟨b9, e9, -, l9⟩ := sh_f w_I.1 kv0 (j := 40) (k := 14) (m := 25000) rfl; cases huB.symm.trans e9; exact l9
  have kuB : jk Z uB 14 := by obtain ⟨b9, e9, k9, -⟩ := sh_f w_I.1 kv0 (j := 40) (k := 14) (m := 25000) rfl; cases huB.symm.trans e9; exact k9
  have t63 : 0 ≤ (I v0 0).toInt ∧ (I v0 0).toInt ≤ 24 := w_I.fld 12 0 kv0 (by decide)
  intro x64 ex64
  have rx64 := i_rng x64
  first | (have tx64 : x64.toInt = ((I v0 0).toInt - (1)) := by (rw [ex64]; exact (i_sub rfl (show (1 : Int32).toInt = 1 from rfl) (by omega) (by omega)))) | (have tx64 : x64.toInt = ((I v0 0) - (1 : Int32)).toInt := by rw [ex64])
  exact ⟨(x64.toInt + 2).toNat + 1, l_X12_findByEffort_L7 w_I v0 v1 kv0 uC huC uE huE uB huB p0 p1   hQ   _ x64 I L w_I q_I   (by refine ⟨?_, ?_⟩; (omega); first | exact DPR.zero (by omega) | exact DPR.next li1 (by omega) (by omega))  (by omega)⟩
end
section
def Ws_X12_findClimb : List (Nat × Nat) := [(12, 24), (12, 25), (12, 26), (12, 27), (12, 31), (12, 32), (12, 33), (12, 34), (12, 37), (12, 38), (12, 40), (12, 41), (12, 42), (12, 43), (12, 44)]
set_option maxHeartbeats 4000000 in
set_option maxRecDepth 100000 in
theorem l_X12_findClimb_L144 {B : Nat × Nat} {T : Nat} {Z0 : jZ} {I0 : jI} {Q : Int32 → jZ → jI → jL → Prop} (w0 : WD Z0 I0) (v0 : Nat) (v1 : Int32) (kv0 : jk Z0 v0 12) (uC : Nat) (huC : jr Z0 v0 37 = some uC) (uE : Nat) (huE : jr Z0 v0 38 = some uE) (uB : Nat) (huB : jr Z0 v0 40 = some uB) (uK : Nat) (huK : jr Z0 v0 9 = some uK) (uR : Nat) (huR : jr Z0 v0 44 = some uR) (p0 : 0 ≤ v1.toInt ∧ v1.toInt ≤ 5) (p1 : 1 ≤ (I0 v0 0).toInt) (v3 : Int32) (v4 : Int32) (hQ : ∀ (r : Int32) (Z' : jZ) (I' : jI) (L' : jL), WD Z' I' → BUD B Z' T → FR Ws_X12_findClimb Z0 I0 Z' I' → CP Z0 Z' → (r.toInt = 0 ∨ (r.toInt = 1 ∧ CRP (I' uR) (I' v0 43).toInt ((I' v0 0).toInt - 1))) → Q r Z' I' L') {K131 : Nat → Int32 → Int32 → jZ → jI → jL → Prop} {N131 : Int} (hK131 : ∀ (v3 : Int32) (v4 : Int32) (Z : jZ) (I : jI) (L : jL), WD Z I → BUD B Z T → FR Ws_X12_findClimb Z0 I0 Z I → CP Z0 Z →   ((-1 ≤ v3.toInt ∧ v3.toInt < (I0 v0 0).toInt ∧ (I0 v0 0).toInt ≤ 24 ∧ 0 ≤ v4.toInt ∧ v4.toInt ≤ (I0 uK v1.toNatClampNeg).toInt ∧ (I0 uK v1.toNatClampNeg).toInt ≤ 120 ∧ ¬ (I uB (1000 * (v3.toInt + 1) + v4.toInt).toNat).toInt = 1000000000 ∧ 0 ≤ (I v0 43).toInt ∧ (I v0 43).toInt ≤ v3.toInt + 1) ∧ MVB (3 * ((I0 v0 0).toInt + 1)) (I0 v0 0).toInt (I uC) (I uE) ∧ DPR (I0 v0 0).toInt (I0 uK v1.toNatClampNeg).toInt (I uC) (I uE) (I uB) (-1) 0 ∧ CRP (I uR) (I v0 43).toInt v3.toInt) → 24 - v3.toInt < N131 → K131 v0 v3 v4 Z I L) : ∀ (n : Nat) (v5 : Int32) (Z : jZ) (I : jI) (L : jL), WD Z I → BUD B Z T → FR Ws_X12_findClimb Z0 I0 Z I → CP Z0 Z →   ((-1 ≤ v3.toInt ∧ v3.toInt < (I0 v0 0).toInt - 1 ∧ (I0 v0 0).toInt ≤ 24 ∧ 0 ≤ v4.toInt ∧ v4.toInt ≤ (I0 uK v1.toNatClampNeg).toInt ∧ (I0 uK v1.toNatClampNeg).toInt ≤ 120 ∧ 0 ≤ (I v0 43).toInt ∧ (I v0 43).toInt ≤ v3.toInt + 1 ∧ 1 ≤ v5.toInt ∧ v5.toInt ≤ 3) ∧ MVB (3 * ((I0 v0 0).toInt + 1)) (I0 v0 0).toInt (I uC) (I uE) ∧ DPR (I0 v0 0).toInt (I0 uK v1.toNatClampNeg).toInt (I uC) (I uE) (I uB) (-1) 0 ∧ (∃ far : Int, v5.toInt ≤ far ∧ far ≤ 3 ∧ CN (I uC) (I uE) (I uB) (v3.toInt + 1) v4.toInt far) ∧ CRP (I uR) (I v0 43).toInt v3.toInt) → 24 - v3.toInt ≤ N131 → 4 - v5.toInt < (n : Int) → f_X12_findClimb_L144 B K131 Q n v0 v3 v4 v5 Z I L := by
  intro n
  induction n with
  | zero =>
    intro v5 Z I L w_I bd_Z q_I cp_Z   li hm131 me
    exfalso
    omega
  | succ n ih =>
    intro v5 Z I L w_I bd_Z q_I cp_Z   li hm131 me
    unfold f_X12_findClimb_L144
    have rv5 := i_rng v5
    have rv3 := i_rng v3
    have rv4 := i_rng v4
    have rv1 := i_rng v1
    obtain ⟨li0, li1, li2, li3, li4⟩ := li
    have kv0_0 := kv0
    have kv0 := (q_I.1 _ _ kv0).1
    have t1 : 0 ≤ (I v0 0).toInt ∧ (I v0 0).toInt ≤ 24 := w_I.fld 12 0 kv0 (by decide)
    have t2 : 0 ≤ (I v0 43).toInt ∧ (I v0 43).toInt ≤ 24 := w_I.fld 12 43 kv0 (by decide)
    have huC_1 : jr Z v0 37 = some uC := (q_I.2.1 v0 12 37 kv0_0 (by decide) (by decide)).trans huC
    have luC : jlen Z uC = 75 := by obtain ⟨b9, e9, -, l9⟩ := sh_f w_I.1 kv0 (j := 37) (k := 14) (m := 75) rfl; cases huC_1.symm.trans e9; exact l9
    have kuC : jk Z uC 14 := by obtain ⟨b9, e9, k9, -⟩ := sh_f w_I.1 kv0 (j := 37) (k := 14) (m := 75) rfl; cases huC_1.symm.trans e9; exact k9
    have huE_1 : jr Z v0 38 = some uE := (q_I.2.1 v0 12 38 kv0_0 (by decide) (by decide)).trans huE
    have luE : jlen Z uE = 75 := by obtain ⟨b9, e9, -, l9⟩ := sh_f w_I.1 kv0 (j := 38) (k := 14) (m := 75) rfl; cases huE_1.symm.trans e9; exact l9
    have kuE : jk Z uE 14 := by obtain ⟨b9, e9, k9, -⟩ := sh_f w_I.1 kv0 (j := 38) (k := 14) (m := 75) rfl; cases huE_1.symm.trans e9; exact k9
    have huB_1 : jr Z v0 40 = some uB := (q_I.2.1 v0 12 40 kv0_0 (by decide) (by decide)).trans huB
    have luB : jlen Z uB = 25000 := by obtain ⟨b9, e9, -, l9⟩ := sh_f w_I.1 kv0 (j := 40) (k := 14) (m := 25000) rfl; cases huB_1.symm.trans e9; exact l9
    have kuB : jk Z uB 14 := by obtain ⟨b9, e9, k9, -⟩ := sh_f w_I.1 kv0 (j := 40) (k := 14) (m := 25000) rfl; cases huB_1.symm.trans e9; exact k9
    have huK_1 : jr Z v0 9 = some uK := (q_I.2.1 v0 12 9 kv0_0 (by decide) (by decide)).trans huK
    have luK : jlen Z uK = 6 := by obtain ⟨b9, e9, -, l9⟩ := sh_f w_I.1 kv0 (j := 9) (k := 14) (m := 6) rfl; cases huK_1.symm.trans e9; exact l9
    have kuK : jk Z uK 14 := by obtain ⟨b9, e9, k9, -⟩ := sh_f w_I.1 kv0 (j := 9) (k := 14) (m := 6) rfl; cases huK_1.symm.trans e9; exact k9
    have huR_1 : jr Z v0 44 = some uR := (q_I.2.1 v0 12 44 kv0_0 (by decide) (by decide)).trans huR
    have luR : jlen Z uR = 24 := by obtain ⟨b9, e9, -, l9⟩ := sh_f w_I.1 kv0 (j := 44) (k := 14) (m := 24) rfl; cases huR_1.symm.trans e9; exact l9
    have kuR : jk Z uR 14 := by obtain ⟨b9, e9, k9, -⟩ := sh_f w_I.1 kv0 (j := 44) (k := 14) (m := 24) rfl; cases huR_1.symm.trans e9; exact k9
    have xq_I := q_I.1
    have e0 : (I v0 0).toInt = (I0 v0 0).toInt := by rw [q_I.2.2.1 v0 12 0 kv0_0 (by decide) (by decide)]
    have ek : I uK = I0 uK := q_I.2.2.2 v0 12 9 uK kv0_0 huK (by obtain ⟨b9, e9, k9, -⟩ := sh_f w0.1 kv0_0 (j := 9) (k := 14) (m := 6) rfl; cases huK.symm.trans e9; rw [k9.2]; rfl) rfl (by decide)
    have ekv : (I uK v1.toNatClampNeg).toInt = (I0 uK v1.toNatClampNeg).toInt := by rw [ek]
    have okn : 0 ≤ (I uK v1.toNatClampNeg).toInt ∧ (I uK v1.toNatClampNeg).toInt ≤ 120 := w_I.arr 12 9 kv0 huK_1 kuK rfl rfl _
    have mvI : MVB (3 * ((I v0 0).toInt + 1)) (I v0 0).toInt (I uC) (I uE) := by rw [e0]; exact li1
    have dpI : DPR (I v0 0).toInt (I0 uK v1.toNatClampNeg).toInt (I uC) (I uE) (I uB) (-1) 0 := by rw [e0]; exact li2
    refine s_X12_isOn w_I v0 v3 v5 v4 kv0 uC huC_1 uE huE_1 uB huB_1 (by first | exact mvI | assumption) (by omega) (by exact ⟨_, by omega, dpI⟩) (fun r3 p4 => ?_)
    have rr3 := i_rng r3
    refine ⟨fun c5 => ?_, fun c5 => ?_⟩
    · skip
      first | (have t6 : ¬ (r3.toInt = (0)) := (not_congr (i_eq rfl (show (0 : Int32).toInt = 0 from rfl))).mp c5) | (have t6 : ¬ (r3.toInt = (0 : Int32).toInt) := (not_congr (i_eq rfl rfl)).mp c5) | skip
      have hcn : CN (I uC) (I uE) (I uB) (v3.toInt + 1) v4.toInt v5.toInt := by
        rcases p4 with h4 | h4
        · exact h4.2
        · exfalso; omega
      obtain ⟨kk, ii, c1, c2, c3, c4, c8, c6⟩ := hcn
      have tk := i_nat (x := ((((3 : Int32) * (v3 + (1 : Int32))) + v5) - (1 : Int32))) (i_sub (i_add (i_mul (show (3 : Int32).toInt = 3 from rfl) (i_add rfl (show (1 : Int32).toInt = 1 from rfl) (by omega) (by omega)) (by omega) (by omega)) rfl (by omega) (by omega)) (show (1 : Int32).toInt = 1 from rfl) (by omega) (by omega)) (by omega)
      obtain rfl : kk = ((((3 : Int32) * (v3 + (1 : Int32))) + v5) - (1 : Int32)).toNatClampNeg := by omega
      have hm9 := li1 ((((3 : Int32) * (v3 + (1 : Int32))) + v5) - (1 : Int32)).toNatClampNeg (by omega)
      have hm8 := hm9.resolve_left c2
      intro b7 eb7
      obtain rfl : uE = b7 := Option.some.inj (huE_1.symm.trans eb7)
      have o8 : vp_in ((((3 : Int32) * (v3 + (1 : Int32))) + v5) - (1 : Int32)) 75 := vi_of (i_sub (i_add (i_mul (show (3 : Int32).toInt = 3 from rfl) (i_add rfl (show (1 : Int32).toInt = 1 from rfl) (by omega) (by omega)) (by omega) (by omega)) rfl (by omega) (by omega)) (show (1 : Int32).toInt = 1 from rfl) (by omega) (by omega)) (by omega) (by omega)
      refine ⟨o8, ?_⟩
      intro x9 ex9
      have rx9 := i_rng x9
      first | (have tx9 : x9.toInt = (v4.toInt - (I uE ((((3 : Int32) * (v3 + (1 : Int32))) + v5) - (1 : Int32)).toNatClampNeg).toInt) := by (rw [ex9]; exact (i_sub rfl rfl (by omega) (by omega)))) | (have tx9 : x9.toInt = (v4 - (I uE ((((3 : Int32) * (v3 + (1 : Int32))) + v5) - (1 : Int32)).toNatClampNeg)).toInt := by rw [ex9])
      intro x10 ex10
      have rx10 := i_rng x10
      first | (have tx10 : x10.toInt = (v3.toInt + v5.toInt) := by (rw [ex10]; exact (i_add rfl rfl (by omega) (by omega)))) | (have tx10 : x10.toInt = (v3 + v5).toInt := by rw [ex10])
      intro b11 eb11
      obtain rfl : uR = b11 := Option.some.inj (huR_1.symm.trans eb11)
      have t13 : 0 ≤ (I v0 43).toInt ∧ (I v0 43).toInt ≤ 24 := w_I.fld 12 43 kv0 (by decide)
      have o14 : vp_in (I v0 43) 24 := vi_of rfl (by omega) (by omega)
      refine ⟨o14, ?_⟩
      intro I15 eI15
      have w_I15 : WD Z I15 := by rw [eI15]; exact WD_putA w_I 12 44 kv0 huR_1 kuR rfl rfl (by decide) (by constructor <;> omega)
      have ao_I15_uR : ∀ q, q ≠ (I v0 43).toNatClampNeg → I15 uR q = I uR q := fun q hq => by rw [eI15]; exact jpI_off hq
      first | (have u16 : (I15 uR ((I v0 43).toNatClampNeg)).toInt = x10.toInt := by (rw [eI15, show jpI I uR (I v0 43).toNatClampNeg x10 uR (I v0 43).toNatClampNeg = x10 from jpI_at] <;> exact rfl)) | skip
      have f_I15 : FR [(12, 44)] Z I Z I15 := by rw [eI15]; exact FR_upA w_I.2.1 kv0 huR_1 kuR rfl rfl List.mem_cons_self
      have q_I15 : FR Ws_X12_findClimb Z0 I0 Z I15 := q_I.trans w0.1 w0.2.1 (f_I15.mono (by decide))
      have ao_I15_uC : I15 uC = I uC := f_I15.2.2.2 v0 12 37 uC kv0 huC_1 (by rw [kuC.2]; rfl) rfl (by decide)
      have ao_I15_uE : I15 uE = I uE := f_I15.2.2.2 v0 12 38 uE kv0 huE_1 (by rw [kuE.2]; rfl) rfl (by decide)
      have ao_I15_uB : I15 uB = I uB := f_I15.2.2.2 v0 12 40 uB kv0 huB_1 (by rw [kuB.2]; rfl) rfl (by decide)
      have u17 : (I15 v0 0).toInt = (I v0 0).toInt := by rw [f_I15.2.2.1 v0 12 0 kv0 (by decide) (by decide)]
      have u18 : (I15 v0 43).toInt = (I v0 43).toInt := by rw [f_I15.2.2.1 v0 12 43 kv0 (by decide) (by decide)]
      have t20 : 0 ≤ (I15 v0 43).toInt ∧ (I15 v0 43).toInt ≤ 24 := w_I15.fld 12 43 kv0 (by decide)
      intro I21 eI21
      try (have t22 : ((I15 v0 43) + (1 : Int32)).toInt = ((I15 v0 43).toInt + (1)) := (i_add rfl (show (1 : Int32).toInt = 1 from rfl) (by omega) (by omega)))
      have w_I21 : WD Z I21 := by rw [eI21]; exact WD_putF w_I15 12 43 kv0 (by decide) (by decide) (by constructor <;> omega)
      have f_I21 : FR [(12, 43)] Z I15 Z I21 := by rw [eI21]; exact FR_putF kv0 (by decide) List.mem_cons_self
      have q_I21 : FR Ws_X12_findClimb Z0 I0 Z I21 := q_I15.trans w0.1 w0.2.1 (f_I21.mono (by decide))
      have ao_I21_uC : I21 uC = I uC := (f_I21.2.2.2 v0 12 37 uC kv0 huC_1 (by rw [kuC.2]; rfl) rfl (by decide)).trans ao_I15_uC
      have ao_I21_uE : I21 uE = I uE := (f_I21.2.2.2 v0 12 38 uE kv0 huE_1 (by rw [kuE.2]; rfl) rfl (by decide)).trans ao_I15_uE
      have ao_I21_uB : I21 uB = I uB := (f_I21.2.2.2 v0 12 40 uB kv0 huB_1 (by rw [kuB.2]; rfl) rfl (by decide)).trans ao_I15_uB
      have ao_I21_uR : ∀ q, q ≠ (I v0 43).toNatClampNeg → I21 uR q = I uR q := fun q hq => by rw [f_I21.2.2.2 v0 12 44 uR kv0 huR_1 (by rw [kuR.2]; rfl) rfl (by decide)]; exact ao_I15_uR q hq
      have u23 : (I21 uR ((I v0 43).toNatClampNeg)).toInt = (I15 uR ((I v0 43).toNatClampNeg)).toInt := by rw [f_I21.2.2.2 v0 12 44 uR kv0 huR_1 (by rw [kuR.2]; rfl) rfl (by decide)]
      have u24 : (I21 v0 0).toInt = (I15 v0 0).toInt := by rw [f_I21.2.2.1 v0 12 0 kv0 (by decide) (by decide)]
      first | (have u25 : (I21 v0 43).toInt = ((I15 v0 43).toInt + (1)) := by (rw [eI21, show jpI I15 v0 43 ((I15 v0 43) + (1 : Int32)) v0 43 = ((I15 v0 43) + (1 : Int32)) from jpI_at] <;> exact (i_add rfl (show (1 : Int32).toInt = 1 from rfl) (by omega) (by omega)))) | skip
      exact hK131 x10 x9 Z I21 L w_I21 bd_Z q_I21 cp_Z   (by have hcr : CRP (I21 uR) (I21 v0 43).toInt x10.toInt := CRP.step li4 (x := I v0 43) rfl (by omega) (by omega) (by omega) ao_I21_uR (by omega) (by omega); rw [ao_I21_uC, ao_I21_uE, ao_I21_uB]; have e7 : (1000 * (x10.toInt + 1) + x9.toInt).toNat = ii := (by omega); rw [e7]; exact ⟨by omega, li1, li2, hcr⟩)  (by omega)
    · skip
      first | (have t26 : r3.toInt = (0) := (i_eq rfl (show (0 : Int32).toInt = 0 from rfl)).mp c5) | (have t26 : r3.toInt = (0 : Int32).toInt := (i_eq rfl rfl).mp c5) | skip
      intro x27 ex27
      have rx27 := i_rng x27
      first | (have tx27 : x27.toInt = v5.toInt + (1) := by (rw [ex27]; exact (i_add rfl (show (1 : Int32).toInt = 1 from rfl) (by omega) (by omega)))) | skip
      exact ih x27 Z I L w_I bd_Z q_I cp_Z   (by obtain ⟨far, g1, g2, g3⟩ := li3; have hne : ¬ far = v5.toInt := (fun h => by (rcases p4 with h4 | h4; (omega); exact h4.2 (by rw [← h]; exact g3))); refine ⟨?_, li1, li2, ⟨far, ?_, g2, g3⟩, li4⟩ <;> omega) (by omega) (by omega)
set_option maxHeartbeats 4000000 in
set_option maxRecDepth 100000 in
theorem l_X12_findClimb_L131 {B : Nat × Nat} {T : Nat} {Z0 : jZ} {I0 : jI} {Q : Int32 → jZ → jI → jL → Prop} (w0 : WD Z0 I0) (v0 : Nat) (v1 : Int32) (kv0 : jk Z0 v0 12) (uC : Nat) (huC : jr Z0 v0 37 = some uC) (uE : Nat) (huE : jr Z0 v0 38 = some uE) (uB : Nat) (huB : jr Z0 v0 40 = some uB) (uK : Nat) (huK : jr Z0 v0 9 = some uK) (uR : Nat) (huR : jr Z0 v0 44 = some uR) (p0 : 0 ≤ v1.toInt ∧ v1.toInt ≤ 5) (p1 : 1 ≤ (I0 v0 0).toInt) (hQ : ∀ (r : Int32) (Z' : jZ) (I' : jI) (L' : jL), WD Z' I' → BUD B Z' T → FR Ws_X12_findClimb Z0 I0 Z' I' → CP Z0 Z' → (r.toInt = 0 ∨ (r.toInt = 1 ∧ CRP (I' uR) (I' v0 43).toInt ((I' v0 0).toInt - 1))) → Q r Z' I' L') : ∀ (n : Nat) (v3 : Int32) (v4 : Int32) (Z : jZ) (I : jI) (L : jL), WD Z I → BUD B Z T → FR Ws_X12_findClimb Z0 I0 Z I → CP Z0 Z →   ((-1 ≤ v3.toInt ∧ v3.toInt < (I0 v0 0).toInt ∧ (I0 v0 0).toInt ≤ 24 ∧ 0 ≤ v4.toInt ∧ v4.toInt ≤ (I0 uK v1.toNatClampNeg).toInt ∧ (I0 uK v1.toNatClampNeg).toInt ≤ 120 ∧ ¬ (I uB (1000 * (v3.toInt + 1) + v4.toInt).toNat).toInt = 1000000000 ∧ 0 ≤ (I v0 43).toInt ∧ (I v0 43).toInt ≤ v3.toInt + 1) ∧ MVB (3 * ((I0 v0 0).toInt + 1)) (I0 v0 0).toInt (I uC) (I uE) ∧ DPR (I0 v0 0).toInt (I0 uK v1.toNatClampNeg).toInt (I uC) (I uE) (I uB) (-1) 0 ∧ CRP (I uR) (I v0 43).toInt v3.toInt) → 24 - v3.toInt < (n : Int) → f_X12_findClimb_L131 B  Q n v0 v3 v4 Z I L := by
  intro n
  induction n with
  | zero =>
    intro v3 v4 Z I L w_I bd_Z q_I cp_Z   li  me
    exfalso
    omega
  | succ n ih =>
    intro v3 v4 Z I L w_I bd_Z q_I cp_Z   li  me
    unfold f_X12_findClimb_L131
    have rv3 := i_rng v3
    have rv4 := i_rng v4
    have rv1 := i_rng v1
    obtain ⟨li0, li1, li2, li3⟩ := li
    have kv0_0 := kv0
    have kv0 := (q_I.1 _ _ kv0).1
    have t28 : 0 ≤ (I v0 0).toInt ∧ (I v0 0).toInt ≤ 24 := w_I.fld 12 0 kv0 (by decide)
    have t29 : 0 ≤ (I v0 43).toInt ∧ (I v0 43).toInt ≤ 24 := w_I.fld 12 43 kv0 (by decide)
    have huC_1 : jr Z v0 37 = some uC := (q_I.2.1 v0 12 37 kv0_0 (by decide) (by decide)).trans huC
    have luC : jlen Z uC = 75 := by obtain ⟨b9, e9, -, l9⟩ := sh_f w_I.1 kv0 (j := 37) (k := 14) (m := 75) rfl; cases huC_1.symm.trans e9; exact l9
    have kuC : jk Z uC 14 := by obtain ⟨b9, e9, k9, -⟩ := sh_f w_I.1 kv0 (j := 37) (k := 14) (m := 75) rfl; cases huC_1.symm.trans e9; exact k9
    have huE_1 : jr Z v0 38 = some uE := (q_I.2.1 v0 12 38 kv0_0 (by decide) (by decide)).trans huE
    have luE : jlen Z uE = 75 := by obtain ⟨b9, e9, -, l9⟩ := sh_f w_I.1 kv0 (j := 38) (k := 14) (m := 75) rfl; cases huE_1.symm.trans e9; exact l9
    have kuE : jk Z uE 14 := by obtain ⟨b9, e9, k9, -⟩ := sh_f w_I.1 kv0 (j := 38) (k := 14) (m := 75) rfl; cases huE_1.symm.trans e9; exact k9
    have huB_1 : jr Z v0 40 = some uB := (q_I.2.1 v0 12 40 kv0_0 (by decide) (by decide)).trans huB
    have luB : jlen Z uB = 25000 := by obtain ⟨b9, e9, -, l9⟩ := sh_f w_I.1 kv0 (j := 40) (k := 14) (m := 25000) rfl; cases huB_1.symm.trans e9; exact l9
    have kuB : jk Z uB 14 := by obtain ⟨b9, e9, k9, -⟩ := sh_f w_I.1 kv0 (j := 40) (k := 14) (m := 25000) rfl; cases huB_1.symm.trans e9; exact k9
    have huK_1 : jr Z v0 9 = some uK := (q_I.2.1 v0 12 9 kv0_0 (by decide) (by decide)).trans huK
    have luK : jlen Z uK = 6 := by obtain ⟨b9, e9, -, l9⟩ := sh_f w_I.1 kv0 (j := 9) (k := 14) (m := 6) rfl; cases huK_1.symm.trans e9; exact l9
    have kuK : jk Z uK 14 := by obtain ⟨b9, e9, k9, -⟩ := sh_f w_I.1 kv0 (j := 9) (k := 14) (m := 6) rfl; cases huK_1.symm.trans e9; exact k9
    have huR_1 : jr Z v0 44 = some uR := (q_I.2.1 v0 12 44 kv0_0 (by decide) (by decide)).trans huR
    have luR : jlen Z uR = 24 := by obtain ⟨b9, e9, -, l9⟩ := sh_f w_I.1 kv0 (j := 44) (k := 14) (m := 24) rfl; cases huR_1.symm.trans e9; exact l9
    have kuR : jk Z uR 14 := by obtain ⟨b9, e9, k9, -⟩ := sh_f w_I.1 kv0 (j := 44) (k := 14) (m := 24) rfl; cases huR_1.symm.trans e9; exact k9
    have xq_I := q_I.1
    have e0 : (I v0 0).toInt = (I0 v0 0).toInt := by rw [q_I.2.2.1 v0 12 0 kv0_0 (by decide) (by decide)]
    have ek : I uK = I0 uK := q_I.2.2.2 v0 12 9 uK kv0_0 huK (by obtain ⟨b9, e9, k9, -⟩ := sh_f w0.1 kv0_0 (j := 9) (k := 14) (m := 6) rfl; cases huK.symm.trans e9; rw [k9.2]; rfl) rfl (by decide)
    have ekv : (I uK v1.toNatClampNeg).toInt = (I0 uK v1.toNatClampNeg).toInt := by rw [ek]
    have okn : 0 ≤ (I uK v1.toNatClampNeg).toInt ∧ (I uK v1.toNatClampNeg).toInt ≤ 120 := w_I.arr 12 9 kv0 huK_1 kuK rfl rfl _
    have mvI : MVB (3 * ((I v0 0).toInt + 1)) (I v0 0).toInt (I uC) (I uE) := by rw [e0]; exact li1
    have dpI : DPR (I v0 0).toInt (I0 uK v1.toNatClampNeg).toInt (I uC) (I uE) (I uB) (-1) 0 := by rw [e0]; exact li2
    have t31 : 0 ≤ (I v0 0).toInt ∧ (I v0 0).toInt ≤ 24 := w_I.fld 12 0 kv0 (by decide)
    refine ⟨fun c32 => ?_, fun c32 => ?_⟩
    · skip
      first | (have t33 : ((I v0 0).toInt - (1)) ≤ v3.toInt := (i_le (i_sub rfl (show (1 : Int32).toInt = 1 from rfl) (by omega) (by omega)) rfl).mp c32) | (have t33 : ((I v0 0) - (1 : Int32)).toInt ≤ v3.toInt := (i_le rfl rfl).mp c32) | skip
      have t34 : (1 : Int32).toInt = 1 := rfl
      exact hQ (1 : Int32) Z I L w_I bd_Z q_I cp_Z (by exact Or.inr ⟨rfl, by rw [show (I v0 0).toInt - 1 = v3.toInt by omega]; exact li3⟩)
    · skip
      first | (have t35 : ¬ (((I v0 0).toInt - (1)) ≤ v3.toInt) := (not_congr (i_le (i_sub rfl (show (1 : Int32).toInt = 1 from rfl) (by omega) (by omega)) rfl)).mp c32) | (have t35 : ¬ (((I v0 0) - (1 : Int32)).toInt ≤ v3.toInt) := (not_congr (i_le rfl rfl)).mp c32) | skip
      have t36 : (1 : Int32).toInt = 1 := rfl
      exact ⟨(4 - (1 : Int32).toInt).toNat + 1, l_X12_findClimb_L144 w0 v0 v1 kv0_0 uC huC uE huE uB huB uK huK uR huR p0 p1 v3 v4  hQ ih  _ (1 : Int32) Z I L w_I bd_Z q_I cp_Z   (by obtain ⟨far, g1, g2, g3⟩ := DPR.cn li2 (f := v3.toInt + 1) (e := v4.toInt) (by omega) (by omega); refine ⟨?_, li1, li2, ⟨far, ?_, g2, g3⟩, li3⟩ <;> omega) (by omega) (by omega)⟩
set_option maxHeartbeats 4000000 in
set_option maxRecDepth 100000 in
theorem l_X12_findClimb_L19 {B : Nat × Nat} {T : Nat} {Z0 : jZ} {I0 : jI} {Q : Int32 → jZ → jI → jL → Prop} (w0 : WD Z0 I0) (v0 : Nat) (v1 : Int32) (kv0 : jk Z0 v0 12) (uC : Nat) (huC : jr Z0 v0 37 = some uC) (uE : Nat) (huE : jr Z0 v0 38 = some uE) (uB : Nat) (huB : jr Z0 v0 40 = some uB) (uK : Nat) (huK : jr Z0 v0 9 = some uK) (uR : Nat) (huR : jr Z0 v0 44 = some uR) (p0 : 0 ≤ v1.toInt ∧ v1.toInt ≤ 5) (p1 : 1 ≤ (I0 v0 0).toInt) (hQ : ∀ (r : Int32) (Z' : jZ) (I' : jI) (L' : jL), WD Z' I' → BUD B Z' T → FR Ws_X12_findClimb Z0 I0 Z' I' → CP Z0 Z' → (r.toInt = 0 ∨ (r.toInt = 1 ∧ CRP (I' uR) (I' v0 43).toInt ((I' v0 0).toInt - 1))) → Q r Z' I' L') : ∀ (n : Nat) (v2 : Int32) (v3 : Int32) (Z : jZ) (I : jI) (L : jL), WD Z I → BUD B Z T → FR Ws_X12_findClimb Z0 I0 Z I → CP Z0 Z →   ((-1 ≤ v2.toInt ∧ v2.toInt < v3.toInt ∧ 0 ≤ v3.toInt ∧ v3.toInt ≤ 121 ∧ v2.toInt ≤ (I0 uK v1.toNatClampNeg).toInt ∧ (v2.toInt = -1 ∨ ¬ (I uB v2.toNatClampNeg).toInt = 1000000000)) ∧ MVB (3 * ((I0 v0 0).toInt + 1)) (I0 v0 0).toInt (I uC) (I uE) ∧ DPR (I0 v0 0).toInt (I0 uK v1.toNatClampNeg).toInt (I uC) (I uE) (I uB) (-1) 0) → 121 - v3.toInt < (n : Int) → f_X12_findClimb_L19 B  Q n v0 v1 v2 v3 Z I L := by
  intro n
  induction n with
  | zero =>
    intro v2 v3 Z I L w_I bd_Z q_I cp_Z   li  me
    exfalso
    omega
  | succ n ih =>
    intro v2 v3 Z I L w_I bd_Z q_I cp_Z   li  me
    unfold f_X12_findClimb_L19
    have rv2 := i_rng v2
    have rv3 := i_rng v3
    have rv1 := i_rng v1
    obtain ⟨li0, li1, li2⟩ := li
    have kv0_0 := kv0
    have kv0 := (q_I.1 _ _ kv0).1
    have t37 : 0 ≤ (I v0 0).toInt ∧ (I v0 0).toInt ≤ 24 := w_I.fld 12 0 kv0 (by decide)
    have t38 : 0 ≤ (I v0 43).toInt ∧ (I v0 43).toInt ≤ 24 := w_I.fld 12 43 kv0 (by decide)
    have huC_1 : jr Z v0 37 = some uC := (q_I.2.1 v0 12 37 kv0_0 (by decide) (by decide)).trans huC
    have luC : jlen Z uC = 75 := by obtain ⟨b9, e9, -, l9⟩ := sh_f w_I.1 kv0 (j := 37) (k := 14) (m := 75) rfl; cases huC_1.symm.trans e9; exact l9
    have kuC : jk Z uC 14 := by obtain ⟨b9, e9, k9, -⟩ := sh_f w_I.1 kv0 (j := 37) (k := 14) (m := 75) rfl; cases huC_1.symm.trans e9; exact k9
    have huE_1 : jr Z v0 38 = some uE := (q_I.2.1 v0 12 38 kv0_0 (by decide) (by decide)).trans huE
    have luE : jlen Z uE = 75 := by obtain ⟨b9, e9, -, l9⟩ := sh_f w_I.1 kv0 (j := 38) (k := 14) (m := 75) rfl; cases huE_1.symm.trans e9; exact l9
    have kuE : jk Z uE 14 := by obtain ⟨b9, e9, k9, -⟩ := sh_f w_I.1 kv0 (j := 38) (k := 14) (m := 75) rfl; cases huE_1.symm.trans e9; exact k9
    have huB_1 : jr Z v0 40 = some uB := (q_I.2.1 v0 12 40 kv0_0 (by decide) (by decide)).trans huB
    have luB : jlen Z uB = 25000 := by obtain ⟨b9, e9, -, l9⟩ := sh_f w_I.1 kv0 (j := 40) (k := 14) (m := 25000) rfl; cases huB_1.symm.trans e9; exact l9
    have kuB : jk Z uB 14 := by obtain ⟨b9, e9, k9, -⟩ := sh_f w_I.1 kv0 (j := 40) (k := 14) (m := 25000) rfl; cases huB_1.symm.trans e9; exact k9
    have huK_1 : jr Z v0 9 = some uK := (q_I.2.1 v0 12 9 kv0_0 (by decide) (by decide)).trans huK
    have luK : jlen Z uK = 6 := by obtain ⟨b9, e9, -, l9⟩ := sh_f w_I.1 kv0 (j := 9) (k := 14) (m := 6) rfl; cases huK_1.symm.trans e9; exact l9
    have kuK : jk Z uK 14 := by obtain ⟨b9, e9, k9, -⟩ := sh_f w_I.1 kv0 (j := 9) (k := 14) (m := 6) rfl; cases huK_1.symm.trans e9; exact k9
    have huR_1 : jr Z v0 44 = some uR := (q_I.2.1 v0 12 44 kv0_0 (by decide) (by decide)).trans huR
    have luR : jlen Z uR = 24 := by obtain ⟨b9, e9, -, l9⟩ := sh_f w_I.1 kv0 (j := 44) (k := 14) (m := 24) rfl; cases huR_1.symm.trans e9; exact l9
    have kuR : jk Z uR 14 := by obtain ⟨b9, e9, k9, -⟩ := sh_f w_I.1 kv0 (j := 44) (k := 14) (m := 24) rfl; cases huR_1.symm.trans e9; exact k9
    have xq_I := q_I.1
    have e0 : (I v0 0).toInt = (I0 v0 0).toInt := by rw [q_I.2.2.1 v0 12 0 kv0_0 (by decide) (by decide)]
    have ek : I uK = I0 uK := q_I.2.2.2 v0 12 9 uK kv0_0 huK (by obtain ⟨b9, e9, k9, -⟩ := sh_f w0.1 kv0_0 (j := 9) (k := 14) (m := 6) rfl; cases huK.symm.trans e9; rw [k9.2]; rfl) rfl (by decide)
    have ekv : (I uK v1.toNatClampNeg).toInt = (I0 uK v1.toNatClampNeg).toInt := by rw [ek]
    have okn : 0 ≤ (I uK v1.toNatClampNeg).toInt ∧ (I uK v1.toNatClampNeg).toInt ≤ 120 := w_I.arr 12 9 kv0 huK_1 kuK rfl rfl _
    intro b39 eb39
    obtain rfl : uK = b39 := Option.some.inj (huK_1.symm.trans eb39)
    have o40 : vp_in v1 6 := vi_of rfl (by omega) (by omega)
    refine ⟨o40, ?_⟩
    have t41 : 0 ≤ (I uK v1.toNatClampNeg).toInt ∧ (I uK v1.toNatClampNeg).toInt ≤ 120 := w_I.arr 12 9 kv0 huK_1 kuK rfl rfl _
    refine ⟨fun c42 => ?_, fun c42 => ?_⟩
    · skip
      first | (have t43 : (I uK v1.toNatClampNeg).toInt < v3.toInt := (i_lt rfl rfl).mp c42) | (have t43 : (I uK v1.toNatClampNeg).toInt < v3.toInt := (i_lt rfl rfl).mp c42) | skip
      refine ⟨fun c44 => ?_, fun c44 => ?_⟩
      · skip
        first | (have t45 : ¬ (v2.toInt = (-1)) := (not_congr (i_eq rfl (show (-1 : Int32).toInt = -1 from rfl))).mp c44) | (have t45 : ¬ (v2.toInt = (-1 : Int32).toInt) := (not_congr (i_eq rfl rfl)).mp c44) | skip
        intro b46 eb46
        obtain rfl : uB = b46 := Option.some.inj (huB_1.symm.trans eb46)
        have o47 : vp_in v2 25000 := vi_of rfl (by omega) (by omega)
        refine ⟨o47, ?_⟩
        intro I48 eI48
        try (have t49 : ((I uB v2.toNatClampNeg) / (100 : Int32)).toInt = ((I uB v2.toNatClampNeg).toInt / (100)) := (i_div rfl (show (100 : Int32).toInt = 100 from rfl) (by omega) (by omega)))
        have w_I48 : WD Z I48 := by rw [eI48]; exact WD_putF w_I 12 41 kv0 (by decide) (by decide) trivial
        have f_I48 : FR [(12, 41)] Z I Z I48 := by rw [eI48]; exact FR_putF kv0 (by decide) List.mem_cons_self
        have q_I48 : FR Ws_X12_findClimb Z0 I0 Z I48 := q_I.trans w0.1 w0.2.1 (f_I48.mono (by decide))
        have ao_I48_uC : I48 uC = I uC := f_I48.2.2.2 v0 12 37 uC kv0 huC_1 (by rw [kuC.2]; rfl) rfl (by decide)
        have ao_I48_uE : I48 uE = I uE := f_I48.2.2.2 v0 12 38 uE kv0 huE_1 (by rw [kuE.2]; rfl) rfl (by decide)
        have ao_I48_uB : I48 uB = I uB := f_I48.2.2.2 v0 12 40 uB kv0 huB_1 (by rw [kuB.2]; rfl) rfl (by decide)
        have ao_I48_uR : I48 uR = I uR := f_I48.2.2.2 v0 12 44 uR kv0 huR_1 (by rw [kuR.2]; rfl) rfl (by decide)
        have u50 : (I48 uK (v1.toNatClampNeg)).toInt = (I uK (v1.toNatClampNeg)).toInt := by rw [f_I48.2.2.2 v0 12 9 uK kv0 huK_1 (by rw [kuK.2]; rfl) rfl (by decide)]
        have u51 : (I48 v0 0).toInt = (I v0 0).toInt := by rw [f_I48.2.2.1 v0 12 0 kv0 (by decide) (by decide)]
        have u52 : (I48 v0 43).toInt = (I v0 43).toInt := by rw [f_I48.2.2.1 v0 12 43 kv0 (by decide) (by decide)]
        first | (have u53 : (I48 v0 41).toInt = ((I uB v2.toNatClampNeg).toInt / (100)) := by (rw [eI48, show jpI I v0 41 ((I uB v2.toNatClampNeg) / (100 : Int32)) v0 41 = ((I uB v2.toNatClampNeg) / (100 : Int32)) from jpI_at] <;> exact (i_div rfl (show (100 : Int32).toInt = 100 from rfl) (by omega) (by omega)))) | skip
        intro I54 eI54
        have w_I54 : WD Z I54 := by rw [eI54]; exact WD_putF w_I48 12 42 kv0 (by decide) (by decide) trivial
        have f_I54 : FR [(12, 42)] Z I48 Z I54 := by rw [eI54]; exact FR_putF kv0 (by decide) List.mem_cons_self
        have q_I54 : FR Ws_X12_findClimb Z0 I0 Z I54 := q_I48.trans w0.1 w0.2.1 (f_I54.mono (by decide))
        have ao_I54_uC : I54 uC = I uC := (f_I54.2.2.2 v0 12 37 uC kv0 huC_1 (by rw [kuC.2]; rfl) rfl (by decide)).trans ao_I48_uC
        have ao_I54_uE : I54 uE = I uE := (f_I54.2.2.2 v0 12 38 uE kv0 huE_1 (by rw [kuE.2]; rfl) rfl (by decide)).trans ao_I48_uE
        have ao_I54_uB : I54 uB = I uB := (f_I54.2.2.2 v0 12 40 uB kv0 huB_1 (by rw [kuB.2]; rfl) rfl (by decide)).trans ao_I48_uB
        have ao_I54_uR : I54 uR = I uR := (f_I54.2.2.2 v0 12 44 uR kv0 huR_1 (by rw [kuR.2]; rfl) rfl (by decide)).trans ao_I48_uR
        have u55 : (I54 uK (v1.toNatClampNeg)).toInt = (I48 uK (v1.toNatClampNeg)).toInt := by rw [f_I54.2.2.2 v0 12 9 uK kv0 huK_1 (by rw [kuK.2]; rfl) rfl (by decide)]
        have u56 : (I54 v0 0).toInt = (I48 v0 0).toInt := by rw [f_I54.2.2.1 v0 12 0 kv0 (by decide) (by decide)]
        have u57 : (I54 v0 43).toInt = (I48 v0 43).toInt := by rw [f_I54.2.2.1 v0 12 43 kv0 (by decide) (by decide)]
        have u58 : (I54 v0 41).toInt = (I48 v0 41).toInt := by rw [f_I54.2.2.1 v0 12 41 kv0 (by decide) (by decide)]
        first | (have u59 : (I54 v0 42).toInt = v2.toInt := by (rw [eI54, show jpI I48 v0 42 v2 v0 42 = v2 from jpI_at] <;> exact rfl)) | skip
        intro I60 eI60
        have t61 : (0 : Int32).toInt = 0 := rfl
        have w_I60 : WD Z I60 := by rw [eI60]; exact WD_putF w_I54 12 43 kv0 (by decide) (by decide) (by constructor <;> omega)
        have f_I60 : FR [(12, 43)] Z I54 Z I60 := by rw [eI60]; exact FR_putF kv0 (by decide) List.mem_cons_self
        have q_I60 : FR Ws_X12_findClimb Z0 I0 Z I60 := q_I54.trans w0.1 w0.2.1 (f_I60.mono (by decide))
        have ao_I60_uC : I60 uC = I uC := (f_I60.2.2.2 v0 12 37 uC kv0 huC_1 (by rw [kuC.2]; rfl) rfl (by decide)).trans ao_I54_uC
        have ao_I60_uE : I60 uE = I uE := (f_I60.2.2.2 v0 12 38 uE kv0 huE_1 (by rw [kuE.2]; rfl) rfl (by decide)).trans ao_I54_uE
        have ao_I60_uB : I60 uB = I uB := (f_I60.2.2.2 v0 12 40 uB kv0 huB_1 (by rw [kuB.2]; rfl) rfl (by decide)).trans ao_I54_uB
        have ao_I60_uR : I60 uR = I uR := (f_I60.2.2.2 v0 12 44 uR kv0 huR_1 (by rw [kuR.2]; rfl) rfl (by decide)).trans ao_I54_uR
        have u62 : (I60 uK (v1.toNatClampNeg)).toInt = (I54 uK (v1.toNatClampNeg)).toInt := by rw [f_I60.2.2.2 v0 12 9 uK kv0 huK_1 (by rw [kuK.2]; rfl) rfl (by decide)]
        have u63 : (I60 v0 0).toInt = (I54 v0 0).toInt := by rw [f_I60.2.2.1 v0 12 0 kv0 (by decide) (by decide)]
        have u64 : (I60 v0 41).toInt = (I54 v0 41).toInt := by rw [f_I60.2.2.1 v0 12 41 kv0 (by decide) (by decide)]
        have u65 : (I60 v0 42).toInt = (I54 v0 42).toInt := by rw [f_I60.2.2.1 v0 12 42 kv0 (by decide) (by decide)]
        first | (have u66 : (I60 v0 43).toInt = (0) := by (rw [eI60, show jpI I54 v0 43 (0 : Int32) v0 43 = (0 : Int32) from jpI_at] <;> exact (show (0 : Int32).toInt = 0 from rfl))) | skip
        have t67 : (-1 : Int32).toInt = -1 := rfl
        exact ⟨(24 - (-1 : Int32).toInt).toNat + 1, l_X12_findClimb_L131 w0 v0 v1 kv0_0 uC huC uE huE uB huB uK huK uR huR p0 p1   hQ   _ (-1 : Int32) v2 Z I60 L w_I60 bd_Z q_I60 cp_Z   (by have hcr : CRP (I60 uR) (I60 v0 43).toInt (-1 : Int32).toInt := (by rw [show (I60 v0 43).toInt = 0 by omega]; exact CRP.zero); rw [ao_I60_uC, ao_I60_uE, ao_I60_uB]; have hv2 := i_nat (x := v2) rfl (by omega); have e7 : (1000 * ((-1 : Int32).toInt + 1) + v2.toInt).toNat = v2.toNatClampNeg := (by omega); rw [e7]; exact ⟨by omega, li1, li2, hcr⟩)  (by omega)⟩
      · skip
        first | (have t68 : v2.toInt = (-1) := (i_eq rfl (show (-1 : Int32).toInt = -1 from rfl)).mp c44) | (have t68 : v2.toInt = (-1 : Int32).toInt := (i_eq rfl rfl).mp c44) | skip
        have t69 : (0 : Int32).toInt = 0 := rfl
        exact hQ (0 : Int32) Z I L w_I bd_Z q_I cp_Z (by exact Or.inl rfl)
    · skip
      first | (have t70 : ¬ ((I uK v1.toNatClampNeg).toInt < v3.toInt) := (not_congr (i_lt rfl rfl)).mp c42) | (have t70 : ¬ ((I uK v1.toNatClampNeg).toInt < v3.toInt) := (not_congr (i_lt rfl rfl)).mp c42) | skip
      intro b71 eb71
      obtain rfl : uB = b71 := Option.some.inj (huB_1.symm.trans eb71)
      have o72 : vp_in v3 25000 := vi_of rfl (by omega) (by omega)
      refine ⟨o72, ?_⟩
      refine ⟨fun c73 => ?_, fun c73 => ?_⟩
      · skip
        first | (have t74 : (I uB v3.toNatClampNeg).toInt = (1000000000) := (i_eq rfl (show (1000000000 : Int32).toInt = 1000000000 from rfl)).mp c73) | (have t74 : (I uB v3.toNatClampNeg).toInt = (1000000000 : Int32).toInt := (i_eq rfl rfl).mp c73) | skip
        unfold f_X12_findClimb_b90
        intro x75 ex75
        have rx75 := i_rng x75
        first | (have tx75 : x75.toInt = v3.toInt + (1) := by (rw [ex75]; exact (i_add rfl (show (1 : Int32).toInt = 1 from rfl) (by omega) (by omega)))) | skip
        exact ih v2 x75 Z I L w_I bd_Z q_I cp_Z   (by exact ⟨by omega, li1, li2⟩)  (by omega)
      · skip
        first | (have t76 : ¬ ((I uB v3.toNatClampNeg).toInt = (1000000000)) := (not_congr (i_eq rfl (show (1000000000 : Int32).toInt = 1000000000 from rfl))).mp c73) | (have t76 : ¬ ((I uB v3.toNatClampNeg).toInt = (1000000000 : Int32).toInt) := (not_congr (i_eq rfl rfl)).mp c73) | skip
        intro b77 eb77
        obtain rfl : uB = b77 := Option.some.inj (huB_1.symm.trans eb77)
        have o78 : vp_in v3 25000 := vi_of rfl (by omega) (by omega)
        refine ⟨o78, ?_⟩
        intro b79 eb79
        obtain ⟨x80, ex80, kb79, lb79⟩ := sh_f w_I.1 kv0 (j := 10) (k := 14) (m := 6) rfl
        cases eb79.symm.trans ex80
        have o81 : vp_in v1 6 := vi_of rfl (by omega) (by omega)
        refine ⟨o81, ?_⟩
        have t82 : 0 ≤ (I b79 v1.toNatClampNeg).toInt ∧ (I b79 v1.toNatClampNeg).toInt ≤ 999 := w_I.arr 12 10 kv0 eb79 kb79 rfl rfl _
        refine ⟨fun c83 => ?_, fun c83 => ?_⟩
        · skip
          first | (have t84 : ((I uB v3.toNatClampNeg).toInt / (100)) ≤ (I b79 v1.toNatClampNeg).toInt := (i_le (i_div rfl (show (100 : Int32).toInt = 100 from rfl) (by omega) (by omega)) rfl).mp c83) | (have t84 : ((I uB v3.toNatClampNeg) / (100 : Int32)).toInt ≤ (I b79 v1.toNatClampNeg).toInt := (i_le rfl rfl).mp c83) | skip
          refine ⟨fun c85 => ?_, fun c85 => ?_⟩
          · skip
            first | (have t86 : v2.toInt = (-1) := (i_eq rfl (show (-1 : Int32).toInt = -1 from rfl)).mp c85) | (have t86 : v2.toInt = (-1 : Int32).toInt := (i_eq rfl rfl).mp c85) | skip
            unfold f_X12_findClimb_b88
            unfold f_X12_findClimb_b90
            intro x87 ex87
            have rx87 := i_rng x87
            first | (have tx87 : x87.toInt = v3.toInt + (1) := by (rw [ex87]; exact (i_add rfl (show (1 : Int32).toInt = 1 from rfl) (by omega) (by omega)))) | skip
            exact ih v3 x87 Z I L w_I bd_Z q_I cp_Z   (by exact ⟨by omega, li1, li2⟩)  (by omega)
          · skip
            first | (have t88 : ¬ (v2.toInt = (-1)) := (not_congr (i_eq rfl (show (-1 : Int32).toInt = -1 from rfl))).mp c85) | (have t88 : ¬ (v2.toInt = (-1 : Int32).toInt) := (not_congr (i_eq rfl rfl)).mp c85) | skip
            intro b89 eb89
            obtain rfl : uB = b89 := Option.some.inj (huB_1.symm.trans eb89)
            have o90 : vp_in v3 25000 := vi_of rfl (by omega) (by omega)
            refine ⟨o90, ?_⟩
            intro b91 eb91
            obtain rfl : uB = b91 := Option.some.inj (huB_1.symm.trans eb91)
            have o92 : vp_in v2 25000 := vi_of rfl (by omega) (by omega)
            refine ⟨o92, ?_⟩
            refine ⟨fun c93 => ?_, fun c93 => ?_⟩
            · skip
              first | (have t94 : ((I uB v2.toNatClampNeg).toInt / (100)) ≤ ((I uB v3.toNatClampNeg).toInt / (100)) := (i_le (i_div rfl (show (100 : Int32).toInt = 100 from rfl) (by omega) (by omega)) (i_div rfl (show (100 : Int32).toInt = 100 from rfl) (by omega) (by omega))).mp c93) | (have t94 : ((I uB v2.toNatClampNeg) / (100 : Int32)).toInt ≤ ((I uB v3.toNatClampNeg) / (100 : Int32)).toInt := (i_le rfl rfl).mp c93) | skip
              unfold f_X12_findClimb_b90
              intro x95 ex95
              have rx95 := i_rng x95
              first | (have tx95 : x95.toInt = v3.toInt + (1) := by (rw [ex95]; exact (i_add rfl (show (1 : Int32).toInt = 1 from rfl) (by omega) (by omega)))) | skip
              exact ih v2 x95 Z I L w_I bd_Z q_I cp_Z   (by exact ⟨by omega, li1, li2⟩)  (by omega)
            · skip
              first | (have t96 : ¬ (((I uB v2.toNatClampNeg).toInt / (100)) ≤ ((I uB v3.toNatClampNeg).toInt / (100))) := (not_congr (i_le (i_div rfl (show (100 : Int32).toInt = 100 from rfl) (by omega) (by omega)) (i_div rfl (show (100 : Int32).toInt = 100 from rfl) (by omega) (by omega)))).mp c93) | (have t96 : ¬ (((I uB v2.toNatClampNeg) / (100 : Int32)).toInt ≤ ((I uB v3.toNatClampNeg) / (100 : Int32)).toInt) := (not_congr (i_le rfl rfl)).mp c93) | skip
              unfold f_X12_findClimb_b88
              unfold f_X12_findClimb_b90
              intro x97 ex97
              have rx97 := i_rng x97
              first | (have tx97 : x97.toInt = v3.toInt + (1) := by (rw [ex97]; exact (i_add rfl (show (1 : Int32).toInt = 1 from rfl) (by omega) (by omega)))) | skip
              exact ih v3 x97 Z I L w_I bd_Z q_I cp_Z   (by exact ⟨by omega, li1, li2⟩)  (by omega)
        · skip
          first | (have t98 : ¬ (((I uB v3.toNatClampNeg).toInt / (100)) ≤ (I b79 v1.toNatClampNeg).toInt) := (not_congr (i_le (i_div rfl (show (100 : Int32).toInt = 100 from rfl) (by omega) (by omega)) rfl)).mp c83) | (have t98 : ¬ (((I uB v3.toNatClampNeg) / (100 : Int32)).toInt ≤ (I b79 v1.toNatClampNeg).toInt) := (not_congr (i_le rfl rfl)).mp c83) | skip
          unfold f_X12_findClimb_b90
          intro x99 ex99
          have rx99 := i_rng x99
          first | (have tx99 : x99.toInt = v3.toInt + (1) := by (rw [ex99]; exact (i_add rfl (show (1 : Int32).toInt = 1 from rfl) (by omega) (by omega)))) | skip
          exact ih v2 x99 Z I L w_I bd_Z q_I cp_Z   (by exact ⟨by omega, li1, li2⟩)  (by omega)
set_option maxHeartbeats 4000000 in
set_option maxRecDepth 100000 in
theorem s_X12_findClimb {B : Nat × Nat} {T : Nat} {Z : jZ} {I : jI} {L : jL} (w_I : WD Z I) (bd_Z : BUD B Z T) (v0 : Nat) (v1 : Int32) (kv0 : jk Z v0 12) (uC : Nat) (huC : jr Z v0 37 = some uC) (uE : Nat) (huE : jr Z v0 38 = some uE) (uB : Nat) (huB : jr Z v0 40 = some uB) (uK : Nat) (huK : jr Z v0 9 = some uK) (uR : Nat) (huR : jr Z v0 44 = some uR) (p0 : 0 ≤ v1.toInt ∧ v1.toInt ≤ 5) (p1 : 1 ≤ (I v0 0).toInt) {Q : Int32 → jZ → jI → jL → Prop} (hQ : ∀ (r : Int32) (Z' : jZ) (I' : jI) (L' : jL), WD Z' I' → BUD B Z' T → FR Ws_X12_findClimb Z I Z' I' → CP Z Z' → (r.toInt = 0 ∨ (r.toInt = 1 ∧ CRP (I' uR) (I' v0 43).toInt ((I' v0 0).toInt - 1))) → Q r Z' I' L') : f_X12_findClimb B v0 v1 Z I L Q := by
  unfold f_X12_findClimb
  have q_I : FR Ws_X12_findClimb Z I Z I := FR.rf
  have cp_Z : CP Z Z := CP.rf
  have rv1 := i_rng v1
  have t100 : 0 ≤ (I v0 0).toInt ∧ (I v0 0).toInt ≤ 24 := w_I.fld 12 0 kv0 (by decide)
  have t101 : 0 ≤ (I v0 43).toInt ∧ (I v0 43).toInt ≤ 24 := w_I.fld 12 43 kv0 (by decide)
  have luC : jlen Z uC = 75 := by obtain ⟨b9, e9, -, l9⟩ := sh_f w_I.1 kv0 (j := 37) (k := 14) (m := 75) rfl; cases huC.symm.trans e9; exact l9
  have kuC : jk Z uC 14 := by obtain ⟨b9, e9, k9, -⟩ := sh_f w_I.1 kv0 (j := 37) (k := 14) (m := 75) rfl; cases huC.symm.trans e9; exact k9
  have luE : jlen Z uE = 75 := by obtain ⟨b9, e9, -, l9⟩ := sh_f w_I.1 kv0 (j := 38) (k := 14) (m := 75) rfl; cases huE.symm.trans e9; exact l9
  have kuE : jk Z uE 14 := by obtain ⟨b9, e9, k9, -⟩ := sh_f w_I.1 kv0 (j := 38) (k := 14) (m := 75) rfl; cases huE.symm.trans e9; exact k9
  have luB : jlen Z uB = 25000 := by obtain ⟨b9, e9, -, l9⟩ := sh_f w_I.1 kv0 (j := 40) (k := 14) (m := 25000) rfl; cases huB.symm.trans e9; exact l9
  have kuB : jk Z uB 14 := by obtain ⟨b9, e9, k9, -⟩ := sh_f w_I.1 kv0 (j := 40) (k := 14) (m := 25000) rfl; cases huB.symm.trans e9; exact k9
  have luK : jlen Z uK = 6 := by obtain ⟨b9, e9, -, l9⟩ := sh_f w_I.1 kv0 (j := 9) (k := 14) (m := 6) rfl; cases huK.symm.trans e9; exact l9
  have kuK : jk Z uK 14 := by obtain ⟨b9, e9, k9, -⟩ := sh_f w_I.1 kv0 (j := 9) (k := 14) (m := 6) rfl; cases huK.symm.trans e9; exact k9
  have luR : jlen Z uR = 24 := by obtain ⟨b9, e9, -, l9⟩ := sh_f w_I.1 kv0 (j := 44) (k := 14) (m := 24) rfl; cases huR.symm.trans e9; exact l9
  have kuR : jk Z uR 14 := by obtain ⟨b9, e9, k9, -⟩ := sh_f w_I.1 kv0 (j := 44) (k := 14) (m := 24) rfl; cases huR.symm.trans e9; exact k9
  refine s_X12_layMoves w_I bd_Z v0 v1 kv0 uC huC uE huE (by omega) (fun  Z105 I103 L104 w_I103 bd_Z105 f_I103 c_Z105 p102 => ?_)
  have q_I103 : FR Ws_X12_findClimb Z I Z105 I103 := q_I.trans w_I.1 w_I.2.1 (f_I103.mono (by decide))
  have cp_Z105 : CP Z Z105 := cp_Z.trans q_I.1 c_Z105
  have x_Z105 := f_I103.1
  have k106 := (f_I103.1 _ _ kv0).1
  have k107 := (f_I103.1 _ _ kuC).1
  have l108 := (f_I103.1 _ _ kuC).2.trans luC
  have k109 := (f_I103.1 _ _ kv0).1
  have e110 := (f_I103.2.1 v0 12 37 kv0 (by decide) (by decide)).trans huC
  have k111 := (f_I103.1 _ _ kuE).1
  have l112 := (f_I103.1 _ _ kuE).2.trans luE
  have k113 := (f_I103.1 _ _ kv0).1
  have e114 := (f_I103.2.1 v0 12 38 kv0 (by decide) (by decide)).trans huE
  have k115 := (f_I103.1 _ _ kuB).1
  have l116 := (f_I103.1 _ _ kuB).2.trans luB
  have k117 := (f_I103.1 _ _ kv0).1
  have e118 := (f_I103.2.1 v0 12 40 kv0 (by decide) (by decide)).trans huB
  have k119 := (f_I103.1 _ _ kuK).1
  have l120 := (f_I103.1 _ _ kuK).2.trans luK
  have k121 := (f_I103.1 _ _ kv0).1
  have e122 := (f_I103.2.1 v0 12 9 kv0 (by decide) (by decide)).trans huK
  have k123 := (f_I103.1 _ _ kuR).1
  have l124 := (f_I103.1 _ _ kuR).2.trans luR
  have k125 := (f_I103.1 _ _ kv0).1
  have e126 := (f_I103.2.1 v0 12 44 kv0 (by decide) (by decide)).trans huR
  have ao_I103_uB : I103 uB = I uB := f_I103.2.2.2 v0 12 40 uB kv0 huB (by rw [kuB.2]; rfl) rfl (by decide)
  have ao_I103_uR : I103 uR = I uR := f_I103.2.2.2 v0 12 44 uR kv0 huR (by rw [kuR.2]; rfl) rfl (by decide)
  have u127 : (I103 v0 0).toInt = (I v0 0).toInt := by rw [f_I103.2.2.1 v0 12 0 kv0 (by decide) (by decide)]
  have u128 : (I103 v0 43).toInt = (I v0 43).toInt := by rw [f_I103.2.2.1 v0 12 43 kv0 (by decide) (by decide)]
  intro b129 eb129
  obtain rfl : uK = b129 := Option.some.inj (e122.symm.trans eb129)
  have o130 : vp_in v1 6 := vi_of rfl (by omega) (by omega)
  refine ⟨o130, ?_⟩
  have t131 : 0 ≤ (I103 uK v1.toNatClampNeg).toInt ∧ (I103 uK v1.toNatClampNeg).toInt ≤ 120 := w_I103.arr 12 9 k121 e122 k119 rfl rfl _
  refine s_X12_findByEffort w_I103 v0 (I103 uK v1.toNatClampNeg) k106 uC e110 uE e114 uB e118 (by assumption) (by omega) (fun  I133 L134 w_I133 f_I133 p132 => ?_)
  have q_I133 : FR Ws_X12_findClimb Z I Z105 I133 := q_I103.trans w_I.1 w_I.2.1 (f_I133.mono (by decide))
  have ao_I133_uR : I133 uR = I uR := (f_I133.2.2.2 v0 12 44 uR k125 e126 (by rw [k123.2]; rfl) rfl (by decide)).trans ao_I103_uR
  have u135 : (I133 uK (v1.toNatClampNeg)).toInt = (I103 uK (v1.toNatClampNeg)).toInt := by rw [f_I133.2.2.2 v0 12 9 uK k121 e122 (by rw [k119.2]; rfl) rfl (by decide)]
  have u136 : (I133 v0 0).toInt = (I103 v0 0).toInt := by rw [f_I133.2.2.1 v0 12 0 k106 (by decide) (by decide)]
  have u137 : (I133 v0 43).toInt = (I103 v0 43).toInt := by rw [f_I133.2.2.1 v0 12 43 k106 (by decide) (by decide)]
  have t138 : (-1 : Int32).toInt = -1 := rfl
  have t139 : (0 : Int32).toInt = 0 := rfl
  exact ⟨(121 - (0 : Int32).toInt).toNat + 1, l_X12_findClimb_L19 w_I v0 v1 kv0 uC huC uE huE uB huB uK huK uR huR p0 p1   hQ   _ (-1 : Int32) (0 : Int32) Z105 I133 L134 w_I133 bd_Z105 q_I133 cp_Z105   (by have ec : I133 uC = I103 uC := f_I133.2.2.2 v0 12 37 uC k106 e110 (by rw [k107.2]; rfl) rfl (by decide); have ee : I133 uE = I103 uE := f_I133.2.2.2 v0 12 38 uE k106 e114 (by rw [k111.2]; rfl) rfl (by decide); have u121K : (I103 uK v1.toNatClampNeg).toInt = (I uK v1.toNatClampNeg).toInt := (by rw [f_I103.2.2.2 v0 12 9 uK kv0 huK (by rw [kuK.2]; rfl) rfl (by decide)]); rw [ec, ee, ← u127, ← u121K]; exact ⟨by omega, p102, p132⟩)  (by omega)⟩
end
