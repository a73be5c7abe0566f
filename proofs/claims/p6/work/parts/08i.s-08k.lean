section
def Ws_X11_climb : List (Nat × Nat) := [(3, 2), (6, 4), (6, 5), (6, 6), (6, 7), (6, 14), (6, 15), (7, 1), (7, 2), (7, 3), (7, 4), (7, 5), (7, 8), (7, 9), (8, 8), (11, 16)]
set_option maxHeartbeats 4000000 in
set_option maxRecDepth 100000 in
theorem l_X11_climb_L74 {B : Nat × Nat} {T : Nat} {Z0 : jZ} {I0 : jI} {Q : Int32 → jZ → jI → jL → Prop} (w0 : WD Z0 I0) (v0 : Nat) (v1 : Int32) (kv0 : jk Z0 v0 11) (v3 : Int64) (hQ : ∀ (r : Int32) (Z' : jZ) (I' : jI) (L' : jL), WD Z' I' → BUD B Z' T → FR Ws_X11_climb Z0 I0 Z' I' → CP Z0 Z' → Q r Z' I' L') : ∀ (n : Nat) (v5 : Int32) (Z : jZ) (I : jI) (L : jL), WD Z I → BUD B Z T → FR Ws_X11_climb Z0 I0 Z I → CP Z0 Z →   (0 ≤ v5.toInt ∧ v5.toInt ≤ 24) → 24 - v5.toInt < (n : Int) → f_X11_climb_L74 B  Q n v0 v3 v5 Z I L := by
  intro n
  induction n with
  | zero =>
    intro v5 Z I L w_I bd_Z q_I cp_Z   li  me
    exfalso
    omega
  | succ n ih =>
    intro v5 Z I L w_I bd_Z q_I cp_Z   li  me
    unfold f_X11_climb_L74
    have rv5 := i_rng v5
    have rv1 := i_rng v1
    have kv0_0 := kv0
    have kv0 := (q_I.1 _ _ kv0).1
    have xq_I := q_I.1
    intro b1 eb1
    obtain ⟨x2, ex2, kb1⟩ := sh_o w_I.1 kv0 (j := 2) (k := 8) rfl
    cases eb1.symm.trans ex2
    have t4 : 0 ≤ (I b1 9).toInt ∧ (I b1 9).toInt ≤ 24 := w_I.fld 8 9 kb1 (by decide)
    refine ⟨fun c5 => ?_, fun c5 => ?_⟩
    · skip
      first | (have t6 : (I b1 9).toInt ≤ v5.toInt := (i_le rfl rfl).mp c5) | (have t6 : (I b1 9).toInt ≤ v5.toInt := (i_le rfl rfl).mp c5) | skip
      refine s_X11_costIn w_I v3    (fun r7  => ?_)
      have rr7 := i_rng r7
      exact hQ r7 Z I L w_I bd_Z q_I cp_Z 
    · skip
      first | (have t8 : ¬ ((I b1 9).toInt ≤ v5.toInt) := (not_congr (i_le rfl rfl)).mp c5) | (have t8 : ¬ ((I b1 9).toInt ≤ v5.toInt) := (not_congr (i_le rfl rfl)).mp c5) | skip
      refine s_X11_treads w_I v3 v5    (fun r9  => ?_)
      have rr9 := i_rng r9
      refine ⟨fun c10 => ?_, fun c10 => ?_⟩
      · skip
        first | (have t11 : r9.toInt = (0) := (i_eq rfl (show (0 : Int32).toInt = 0 from rfl)).mp c10) | (have t11 : r9.toInt = (0 : Int32).toInt := (i_eq rfl rfl).mp c10) | skip
        unfold f_X11_climb_b102
        intro x12 ex12
        have rx12 := i_rng x12
        first | (have tx12 : x12.toInt = v5.toInt + (1) := by (rw [ex12]; exact (i_add rfl (show (1 : Int32).toInt = 1 from rfl) (by omega) (by omega)))) | skip
        exact ih x12 Z I L w_I bd_Z q_I cp_Z   (by omega)  (by omega)
      · skip
        first | (have t13 : ¬ (r9.toInt = (0)) := (not_congr (i_eq rfl (show (0 : Int32).toInt = 0 from rfl))).mp c10) | (have t13 : ¬ (r9.toInt = (0 : Int32).toInt) := (not_congr (i_eq rfl rfl)).mp c10) | skip
        refine s_X11_tellMore w_I v0 (v5.toInt64) kv0   (fun  I14 L15 w_I14 f_I14  => ?_)
        have q_I14 : FR Ws_X11_climb Z0 I0 Z I14 := q_I.trans w0.1 w0.2.1 (f_I14.mono (by decide))
        have u16 : (I14 b1 9).toInt = (I b1 9).toInt := by rw [f_I14.2.2.1 b1 8 9 kb1 (by decide) (by decide)]
        unfold f_X11_climb_b102
        intro x17 ex17
        have rx17 := i_rng x17
        first | (have tx17 : x17.toInt = v5.toInt + (1) := by (rw [ex17]; exact (i_add rfl (show (1 : Int32).toInt = 1 from rfl) (by omega) (by omega)))) | skip
        exact ih x17 Z I14 L15 w_I14 bd_Z q_I14 cp_Z   (by omega)  (by omega)
set_option maxHeartbeats 4000000 in
set_option maxRecDepth 100000 in
theorem s_X11_climb {B : Nat × Nat} {T : Nat} {Z : jZ} {I : jI} {L : jL} (w_I : WD Z I) (bd_Z : BUD B Z T) (v0 : Nat) (v1 : Int32) (kv0 : jk Z v0 11) {Q : Int32 → jZ → jI → jL → Prop} (hQ : ∀ (r : Int32) (Z' : jZ) (I' : jI) (L' : jL), WD Z' I' → BUD B Z' T → FR Ws_X11_climb Z I Z' I' → CP Z Z' → Q r Z' I' L') : f_X11_climb B v0 v1 Z I L Q := by
  unfold f_X11_climb
  have q_I : FR Ws_X11_climb Z I Z I := FR.rf
  have cp_Z : CP Z Z := CP.rf
  have rv1 := i_rng v1
  refine s_X11_find w_I v0 v1 kv0   (fun r18 p19 => ?_)
  refine ⟨fun c21 => ?_, fun b20 c21 => ?_⟩
  · skip
    have t22 : (-1 : Int32).toInt = -1 := rfl
    exact hQ (-1 : Int32) Z I L w_I bd_Z q_I cp_Z 
  · skip
    have kb20 : jk Z b20 5 := by first | exact p19 b20 c21 | exact (p19 b20 c21).1 | exact (p19.1 b20 c21).1
    intro b23 eb23
    obtain ⟨x24, ex24, kb23⟩ := sh_o w_I.1 kv0 (j := 2) (k := 8) rfl
    cases eb23.symm.trans ex24
    have t26 : 0 ≤ (I b23 9).toInt ∧ (I b23 9).toInt ≤ 24 := w_I.fld 8 9 kb23 (by decide)
    refine ⟨fun c27 => ?_, fun c27 => ?_⟩
    · skip
      first | (have t28 : ¬ ((I b23 9).toInt = (0)) := (not_congr (i_eq rfl (show (0 : Int32).toInt = 0 from rfl))).mp c27) | (have t28 : ¬ ((I b23 9).toInt = (0 : Int32).toInt) := (not_congr (i_eq rfl rfl)).mp c27) | skip
      intro b29 eb29
      obtain ⟨x30, ex30, kb29⟩ := sh_o w_I.1 kb20 (j := 8) (k := 6) rfl
      cases eb29.symm.trans ex30
      have t31 : (-1 : Int32).toInt = -1 := rfl
      refine s_X6_lay w_I b29 (I b20 3) (I b20 4) (-1 : Int32) kb29   (fun  I32 L33 w_I32 f_I32  => ?_)
      have q_I32 : FR Ws_X11_climb Z I Z I32 := q_I.trans w_I.1 w_I.2.1 (f_I32.mono (by decide))
      have u34 : (I32 b23 9).toInt = (I b23 9).toInt := by rw [f_I32.2.2.1 b23 8 9 kb23 (by decide) (by decide)]
      have u35 : (I32 b20 3).toInt = (I b20 3).toInt := by rw [f_I32.2.2.1 b20 5 3 kb20 (by decide) (by decide)]
      have u36 : (I32 b20 4).toInt = (I b20 4).toInt := by rw [f_I32.2.2.1 b20 5 4 kb20 (by decide) (by decide)]
      intro b37 eb37
      obtain rfl : b29 = b37 := Option.some.inj (eb29.symm.trans eb37)
      refine s_X6_cheapest w_I32 bd_Z b29 kb29   (fun r38 Z41 I39 L40 w_I39 bd_Z41 f_I39 c_Z41  => ?_)
      have q_I39 : FR Ws_X11_climb Z I Z41 I39 := q_I32.trans w_I.1 w_I.2.1 (f_I39.mono (by decide))
      have cp_Z41 : CP Z Z41 := cp_Z.trans q_I32.1 c_Z41
      have x_Z41 := f_I39.1
      have k42 := (f_I39.1 _ _ kv0).1
      have k43 := (f_I39.1 _ _ kb20).1
      have k44 := (f_I39.1 _ _ kb23).1
      have k45 := (f_I39.1 _ _ kv0).1
      have e46 := (f_I39.2.1 v0 11 2 kv0 (by decide) (by decide)).trans eb23
      have k47 := (f_I39.1 _ _ kb29).1
      have k48 := (f_I39.1 _ _ kb20).1
      have e49 := (f_I39.2.1 b20 5 8 kb20 (by decide) (by decide)).trans eb29
      have u50 : (I39 b23 9).toInt = (I32 b23 9).toInt := by rw [f_I39.2.2.1 b23 8 9 kb23 (by decide) (by decide)]
      have u51 : (I39 b20 3).toInt = (I32 b20 3).toInt := by rw [f_I39.2.2.1 b20 5 3 kb20 (by decide) (by decide)]
      have u52 : (I39 b20 4).toInt = (I32 b20 4).toInt := by rw [f_I39.2.2.1 b20 5 4 kb20 (by decide) (by decide)]
      refine ⟨fun c53 => ?_, fun c53 => ?_⟩
      · skip
        first | (have t54 : ¬ ((lg_cmp r38 (9223372036854775807 : Int64)).toInt = (0)) := (not_congr (i_eq rfl (show (0 : Int32).toInt = 0 from rfl))).mp c53) | (have t54 : ¬ ((lg_cmp r38 (9223372036854775807 : Int64)).toInt = (0 : Int32).toInt) := (not_congr (i_eq rfl rfl)).mp c53) | skip
        refine s_X11_effortIn w_I39 r38    (fun r55 p56 => ?_)
        have rr55 := i_rng r55
        refine s_X11_movesIn w_I39 r38    (fun r57  => ?_)
        have rr57 := i_rng r57
        refine s_X11_tellTwo w_I39 v0 (r55.toInt64) (r57.toInt64) k42   (fun  I58 L59 w_I58 f_I58  => ?_)
        have q_I58 : FR Ws_X11_climb Z I Z41 I58 := q_I39.trans w_I.1 w_I.2.1 (f_I58.mono (by decide))
        have u60 : (I58 b23 9).toInt = (I39 b23 9).toInt := by rw [f_I58.2.2.1 b23 8 9 k44 (by decide) (by decide)]
        have u61 : (I58 b20 3).toInt = (I39 b20 3).toInt := by rw [f_I58.2.2.1 b20 5 3 k43 (by decide) (by decide)]
        have u62 : (I58 b20 4).toInt = (I39 b20 4).toInt := by rw [f_I58.2.2.1 b20 5 4 k43 (by decide) (by decide)]
        have t63 : (0 : Int32).toInt = 0 := rfl
        exact ⟨(24 - (0 : Int32).toInt).toNat + 1, l_X11_climb_L74 w_I v0 v1 kv0 r38  hQ   _ (0 : Int32) Z41 I58 L59 w_I58 bd_Z41 q_I58 cp_Z41   (by omega)  (by omega)⟩
      · skip
        first | (have t64 : (lg_cmp r38 (9223372036854775807 : Int64)).toInt = (0) := (i_eq rfl (show (0 : Int32).toInt = 0 from rfl)).mp c53) | (have t64 : (lg_cmp r38 (9223372036854775807 : Int64)).toInt = (0 : Int32).toInt := (i_eq rfl rfl).mp c53) | skip
        have t65 : (-2 : Int32).toInt = -2 := rfl
        exact hQ (-2 : Int32) Z41 I39 L40 w_I39 bd_Z41 q_I39 cp_Z41 
    · skip
      first | (have t66 : (I b23 9).toInt = (0) := (i_eq rfl (show (0 : Int32).toInt = 0 from rfl)).mp c27) | (have t66 : (I b23 9).toInt = (0 : Int32).toInt := (i_eq rfl rfl).mp c27) | skip
      have t67 : (-1 : Int32).toInt = -1 := rfl
      exact hQ (-1 : Int32) Z I L w_I bd_Z q_I cp_Z 
def Ws_X11_knees : List (Nat × Nat) := [(3, 2), (6, 4), (6, 5), (6, 6), (6, 7), (6, 14), (6, 15), (7, 1), (7, 2), (7, 3), (7, 4), (7, 5), (7, 8), (7, 9), (8, 8), (11, 16)]
set_option maxHeartbeats 4000000 in
set_option maxRecDepth 100000 in
theorem s_X11_knees {B : Nat × Nat} {T : Nat} {Z : jZ} {I : jI} {L : jL} (w_I : WD Z I) (bd_Z : BUD B Z T) (v0 : Nat) (v1 : Int32) (kv0 : jk Z v0 11) {Q : Int32 → jZ → jI → jL → Prop} (hQ : ∀ (r : Int32) (Z' : jZ) (I' : jI) (L' : jL), WD Z' I' → BUD B Z' T → FR Ws_X11_knees Z I Z' I' → CP Z Z' → Q r Z' I' L') : f_X11_knees B v0 v1 Z I L Q := by
  unfold f_X11_knees
  have q_I : FR Ws_X11_knees Z I Z I := FR.rf
  have cp_Z : CP Z Z := CP.rf
  have rv1 := i_rng v1
  refine s_X11_find w_I v0 v1 kv0   (fun r1 p2 => ?_)
  refine ⟨fun c4 => ?_, fun b3 c4 => ?_⟩
  · skip
    have t5 : (-1 : Int32).toInt = -1 := rfl
    exact hQ (-1 : Int32) Z I L w_I bd_Z q_I cp_Z 
  · skip
    have kb3 : jk Z b3 5 := by first | exact p2 b3 c4 | exact (p2 b3 c4).1 | exact (p2.1 b3 c4).1
    intro b6 eb6
    obtain ⟨x7, ex7, kb6⟩ := sh_o w_I.1 kv0 (j := 2) (k := 8) rfl
    cases eb6.symm.trans ex7
    have t9 : 0 ≤ (I b6 9).toInt ∧ (I b6 9).toInt ≤ 24 := w_I.fld 8 9 kb6 (by decide)
    refine ⟨fun c10 => ?_, fun c10 => ?_⟩
    · skip
      first | (have t11 : ¬ ((I b6 9).toInt = (0)) := (not_congr (i_eq rfl (show (0 : Int32).toInt = 0 from rfl))).mp c10) | (have t11 : ¬ ((I b6 9).toInt = (0 : Int32).toInt) := (not_congr (i_eq rfl rfl)).mp c10) | skip
      intro b12 eb12
      obtain ⟨x13, ex13, kb12⟩ := sh_o w_I.1 kb3 (j := 8) (k := 6) rfl
      cases eb12.symm.trans ex13
      have t14 : (-1 : Int32).toInt = -1 := rfl
      refine s_X6_lay w_I b12 (I b3 3) (I b3 4) (-1 : Int32) kb12   (fun  I15 L16 w_I15 f_I15  => ?_)
      have q_I15 : FR Ws_X11_knees Z I Z I15 := q_I.trans w_I.1 w_I.2.1 (f_I15.mono (by decide))
      have u17 : (I15 b6 9).toInt = (I b6 9).toInt := by rw [f_I15.2.2.1 b6 8 9 kb6 (by decide) (by decide)]
      have u18 : (I15 b3 3).toInt = (I b3 3).toInt := by rw [f_I15.2.2.1 b3 5 3 kb3 (by decide) (by decide)]
      have u19 : (I15 b3 4).toInt = (I b3 4).toInt := by rw [f_I15.2.2.1 b3 5 4 kb3 (by decide) (by decide)]
      intro b20 eb20
      obtain ⟨x21, ex21, kb20⟩ := sh_o w_I15.1 kv0 (j := 9) (k := 0) rfl
      cases eb20.symm.trans ex21
      intro b22 eb22
      obtain rfl : b12 = b22 := Option.some.inj (eb12.symm.trans eb22)
      obtain ⟨b23, eb23, kb23⟩ := sh_o w_I15.1 kb20 (j := 0) (k := 7) rfl
      have t24 := capN0 kb20 eb23
      refine s_X0_easiest w_I15 bd_Z b20 b12 kb20 kb12 b23 eb23  (fun r25 Z28 I26 L27 w_I26 bd_Z28 f_I26 c_Z28  => ?_)
      have q_I26 : FR Ws_X11_knees Z I Z28 I26 := q_I15.trans w_I.1 w_I.2.1 (f_I26.mono (by decide))
      have cp_Z28 : CP Z Z28 := cp_Z.trans q_I15.1 c_Z28
      have x_Z28 := f_I26.1
      have k29 := (f_I26.1 _ _ kv0).1
      have k30 := (f_I26.1 _ _ kb3).1
      have k31 := (f_I26.1 _ _ kb6).1
      have k32 := (f_I26.1 _ _ kv0).1
      have e33 := (f_I26.2.1 v0 11 2 kv0 (by decide) (by decide)).trans eb6
      have k34 := (f_I26.1 _ _ kb12).1
      have k35 := (f_I26.1 _ _ kb3).1
      have e36 := (f_I26.2.1 b3 5 8 kb3 (by decide) (by decide)).trans eb12
      have k37 := (f_I26.1 _ _ kb20).1
      have k38 := (f_I26.1 _ _ kv0).1
      have e39 := (f_I26.2.1 v0 11 9 kv0 (by decide) (by decide)).trans eb20
      have k40 := (f_I26.1 _ _ kb23).1
      have k41 := (f_I26.1 _ _ kb20).1
      have e42 := (f_I26.2.1 b20 0 0 kb20 (by decide) (by decide)).trans eb23
      have u43 : (I26 b6 9).toInt = (I15 b6 9).toInt := by rw [f_I26.2.2.1 b6 8 9 kb6 (by decide) (by decide)]
      have u44 : (I26 b3 3).toInt = (I15 b3 3).toInt := by rw [f_I26.2.2.1 b3 5 3 kb3 (by decide) (by decide)]
      have u45 : (I26 b3 4).toInt = (I15 b3 4).toInt := by rw [f_I26.2.2.1 b3 5 4 kb3 (by decide) (by decide)]
      refine ⟨fun c46 => ?_, fun c46 => ?_⟩
      · skip
        first | (have t47 : ¬ ((lg_cmp r25 (9223372036854775807 : Int64)).toInt = (0)) := (not_congr (i_eq rfl (show (0 : Int32).toInt = 0 from rfl))).mp c46) | (have t47 : ¬ ((lg_cmp r25 (9223372036854775807 : Int64)).toInt = (0 : Int32).toInt) := (not_congr (i_eq rfl rfl)).mp c46) | skip
        refine s_X11_costIn w_I26 r25    (fun r48  => ?_)
        have rr48 := i_rng r48
        refine s_X11_tellOne w_I26 v0 (r48.toInt64) k29   (fun  I49 L50 w_I49 f_I49  => ?_)
        have q_I49 : FR Ws_X11_knees Z I Z28 I49 := q_I26.trans w_I.1 w_I.2.1 (f_I49.mono (by decide))
        have u51 : (I49 b6 9).toInt = (I26 b6 9).toInt := by rw [f_I49.2.2.1 b6 8 9 k31 (by decide) (by decide)]
        have u52 : (I49 b3 3).toInt = (I26 b3 3).toInt := by rw [f_I49.2.2.1 b3 5 3 k30 (by decide) (by decide)]
        have u53 : (I49 b3 4).toInt = (I26 b3 4).toInt := by rw [f_I49.2.2.1 b3 5 4 k30 (by decide) (by decide)]
        refine s_X11_effortIn w_I49 r25    (fun r54 p55 => ?_)
        have rr54 := i_rng r54
        exact hQ r54 Z28 I49 L50 w_I49 bd_Z28 q_I49 cp_Z28 
      · skip
        first | (have t56 : (lg_cmp r25 (9223372036854775807 : Int64)).toInt = (0) := (i_eq rfl (show (0 : Int32).toInt = 0 from rfl)).mp c46) | (have t56 : (lg_cmp r25 (9223372036854775807 : Int64)).toInt = (0 : Int32).toInt := (i_eq rfl rfl).mp c46) | skip
        have t57 : (-2 : Int32).toInt = -2 := rfl
        exact hQ (-2 : Int32) Z28 I26 L27 w_I26 bd_Z28 q_I26 cp_Z28 
    · skip
      first | (have t58 : (I b6 9).toInt = (0) := (i_eq rfl (show (0 : Int32).toInt = 0 from rfl)).mp c10) | (have t58 : (I b6 9).toInt = (0 : Int32).toInt := (i_eq rfl rfl).mp c10) | skip
      have t59 : (-1 : Int32).toInt = -1 := rfl
      exact hQ (-1 : Int32) Z I L w_I bd_Z q_I cp_Z 
def Ws_X11_ways : List (Nat × Nat) := [(3, 2), (6, 4), (6, 5), (6, 6), (6, 7), (6, 14), (6, 15), (7, 1), (7, 2), (7, 3), (7, 4), (7, 5), (7, 8), (7, 9), (8, 8), (11, 16)]
set_option maxHeartbeats 4000000 in
set_option maxRecDepth 100000 in
theorem s_X11_ways {B : Nat × Nat} {T : Nat} {Z : jZ} {I : jI} {L : jL} (w_I : WD Z I) (bd_Z : BUD B Z T) (v0 : Nat) (v1 : Int32) (v2 : Int32) (kv0 : jk Z v0 11) {Q : Int64 → jZ → jI → jL → Prop} (hQ : ∀ (r : Int64) (Z' : jZ) (I' : jI) (L' : jL), WD Z' I' → BUD B Z' T → FR Ws_X11_ways Z I Z' I' → CP Z Z' → Q r Z' I' L') : f_X11_ways B v0 v1 v2 Z I L Q := by
  unfold f_X11_ways
  have q_I : FR Ws_X11_ways Z I Z I := FR.rf
  have cp_Z : CP Z Z := CP.rf
  have rv1 := i_rng v1
  have rv2 := i_rng v2
  refine s_X11_find w_I v0 v1 kv0   (fun r1 p2 => ?_)
  refine ⟨fun c4 => ?_, fun b3 c4 => ?_⟩
  · skip
    unfold f_X11_ways_b21
    exact hQ (-1 : Int64) Z I L w_I bd_Z q_I cp_Z 
  · skip
    have kb3 : jk Z b3 5 := by first | exact p2 b3 c4 | exact (p2 b3 c4).1 | exact (p2.1 b3 c4).1
    refine ⟨fun c5 => ?_, fun c5 => ?_⟩
    · skip
      first | (have t6 : v2.toInt < (0) := (i_lt rfl (show (0 : Int32).toInt = 0 from rfl)).mp c5) | (have t6 : v2.toInt < (0 : Int32).toInt := (i_lt rfl rfl).mp c5) | skip
      unfold f_X11_ways_b21
      exact hQ (-1 : Int64) Z I L w_I bd_Z q_I cp_Z 
    · skip
      first | (have t7 : ¬ (v2.toInt < (0)) := (not_congr (i_lt rfl (show (0 : Int32).toInt = 0 from rfl))).mp c5) | (have t7 : ¬ (v2.toInt < (0 : Int32).toInt) := (not_congr (i_lt rfl rfl)).mp c5) | skip
      refine ⟨fun c8 => ?_, fun c8 => ?_⟩
      · skip
        first | (have t9 : v2.toInt ≤ (999) := (i_le rfl (show (999 : Int32).toInt = 999 from rfl)).mp c8) | (have t9 : v2.toInt ≤ (999 : Int32).toInt := (i_le rfl rfl).mp c8) | skip
        intro b10 eb10
        obtain ⟨x11, ex11, kb10⟩ := sh_o w_I.1 kb3 (j := 8) (k := 6) rfl
        cases eb10.symm.trans ex11
        have t12 : (-1 : Int32).toInt = -1 := rfl
        refine s_X6_lay w_I b10 (I b3 3) (I b3 4) (-1 : Int32) kb10   (fun  I13 L14 w_I13 f_I13  => ?_)
        have q_I13 : FR Ws_X11_ways Z I Z I13 := q_I.trans w_I.1 w_I.2.1 (f_I13.mono (by decide))
        have u15 : (I13 b3 3).toInt = (I b3 3).toInt := by rw [f_I13.2.2.1 b3 5 3 kb3 (by decide) (by decide)]
        have u16 : (I13 b3 4).toInt = (I b3 4).toInt := by rw [f_I13.2.2.1 b3 5 4 kb3 (by decide) (by decide)]
        intro b17 eb17
        obtain ⟨x18, ex18, kb17⟩ := sh_o w_I13.1 kv0 (j := 9) (k := 0) rfl
        cases eb17.symm.trans ex18
        intro b19 eb19
        obtain rfl : b10 = b19 := Option.some.inj (eb10.symm.trans eb19)
        have t20 : (-1 : Int32).toInt = -1 := rfl
        obtain ⟨b21, eb21, kb21⟩ := sh_o w_I13.1 kb17 (j := 0) (k := 7) rfl
        have t22 := capN0 kb17 eb21
        refine s_X0_tally w_I13 bd_Z b17 b10 v2 (-1 : Int32) kb17 kb10 b21 eb21  (fun r23 Z26 I24 L25 w_I24 bd_Z26 f_I24 c_Z26  => ?_)
        have q_I24 : FR Ws_X11_ways Z I Z26 I24 := q_I13.trans w_I.1 w_I.2.1 (f_I24.mono (by decide))
        have cp_Z26 : CP Z Z26 := cp_Z.trans q_I13.1 c_Z26
        have x_Z26 := f_I24.1
        have k27 := (f_I24.1 _ _ kv0).1
        have k28 := (f_I24.1 _ _ kb3).1
        have k29 := (f_I24.1 _ _ kb10).1
        have k30 := (f_I24.1 _ _ kb3).1
        have e31 := (f_I24.2.1 b3 5 8 kb3 (by decide) (by decide)).trans eb10
        have k32 := (f_I24.1 _ _ kb17).1
        have k33 := (f_I24.1 _ _ kv0).1
        have e34 := (f_I24.2.1 v0 11 9 kv0 (by decide) (by decide)).trans eb17
        have k35 := (f_I24.1 _ _ kb21).1
        have k36 := (f_I24.1 _ _ kb17).1
        have e37 := (f_I24.2.1 b17 0 0 kb17 (by decide) (by decide)).trans eb21
        have u38 : (I24 b3 3).toInt = (I13 b3 3).toInt := by rw [f_I24.2.2.1 b3 5 3 kb3 (by decide) (by decide)]
        have u39 : (I24 b3 4).toInt = (I13 b3 4).toInt := by rw [f_I24.2.2.1 b3 5 4 kb3 (by decide) (by decide)]
        intro b40 eb40
        obtain rfl : b17 = b40 := Option.some.inj (e34.symm.trans eb40)
        refine s_X11_tellOne w_I24 v0 (L25 b17 2) k27   (fun  I41 L42 w_I41 f_I41  => ?_)
        have q_I41 : FR Ws_X11_ways Z I Z26 I41 := q_I24.trans w_I.1 w_I.2.1 (f_I41.mono (by decide))
        have u43 : (I41 b3 3).toInt = (I24 b3 3).toInt := by rw [f_I41.2.2.1 b3 5 3 k28 (by decide) (by decide)]
        have u44 : (I41 b3 4).toInt = (I24 b3 4).toInt := by rw [f_I41.2.2.1 b3 5 4 k28 (by decide) (by decide)]
        exact hQ r23 Z26 I41 L42 w_I41 bd_Z26 q_I41 cp_Z26 
      · skip
        first | (have t45 : ¬ (v2.toInt ≤ (999)) := (not_congr (i_le rfl (show (999 : Int32).toInt = 999 from rfl))).mp c8) | (have t45 : ¬ (v2.toInt ≤ (999 : Int32).toInt) := (not_congr (i_le rfl rfl)).mp c8) | skip
        unfold f_X11_ways_b21
        exact hQ (-1 : Int64) Z I L w_I bd_Z q_I cp_Z 
def Ws_X11_trod : List (Nat × Nat) := [(3, 2), (6, 4), (6, 5), (6, 6), (6, 7), (6, 14), (6, 15), (7, 1), (7, 2), (7, 3), (7, 4), (7, 5), (7, 8), (7, 9), (8, 8), (11, 16)]
set_option maxHeartbeats 4000000 in
set_option maxRecDepth 100000 in
theorem s_X11_trod {B : Nat × Nat} {T : Nat} {Z : jZ} {I : jI} {L : jL} (w_I : WD Z I) (bd_Z : BUD B Z T) (v0 : Nat) (v1 : Int32) (v2 : Int32) (v3 : Int32) (kv0 : jk Z v0 11) {Q : Int32 → jZ → jI → jL → Prop} (hQ : ∀ (r : Int32) (Z' : jZ) (I' : jI) (L' : jL), WD Z' I' → BUD B Z' T → FR Ws_X11_trod Z I Z' I' → CP Z Z' → Q r Z' I' L') : f_X11_trod B v0 v1 v2 v3 Z I L Q := by
  unfold f_X11_trod
  have q_I : FR Ws_X11_trod Z I Z I := FR.rf
  have cp_Z : CP Z Z := CP.rf
  have rv1 := i_rng v1
  have rv2 := i_rng v2
  have rv3 := i_rng v3
  refine s_X11_find w_I v0 v1 kv0   (fun r1 p2 => ?_)
  refine ⟨fun c4 => ?_, fun b3 c4 => ?_⟩
  · skip
    have t5 : (-1 : Int32).toInt = -1 := rfl
    exact hQ (-1 : Int32) Z I L w_I bd_Z q_I cp_Z 
  · skip
    have kb3 : jk Z b3 5 := by first | exact p2 b3 c4 | exact (p2 b3 c4).1 | exact (p2.1 b3 c4).1
    refine ⟨fun c6 => ?_, fun c6 => ?_⟩
    · skip
      first | (have t7 : v2.toInt < (0) := (i_lt rfl (show (0 : Int32).toInt = 0 from rfl)).mp c6) | (have t7 : v2.toInt < (0 : Int32).toInt := (i_lt rfl rfl).mp c6) | skip
      have t8 : (-1 : Int32).toInt = -1 := rfl
      exact hQ (-1 : Int32) Z I L w_I bd_Z q_I cp_Z 
    · skip
      first | (have t9 : ¬ (v2.toInt < (0)) := (not_congr (i_lt rfl (show (0 : Int32).toInt = 0 from rfl))).mp c6) | (have t9 : ¬ (v2.toInt < (0 : Int32).toInt) := (not_congr (i_lt rfl rfl)).mp c6) | skip
      refine ⟨fun c10 => ?_, fun c10 => ?_⟩
      · skip
        first | (have t11 : (999) < v2.toInt := (i_lt (show (999 : Int32).toInt = 999 from rfl) rfl).mp c10) | (have t11 : (999 : Int32).toInt < v2.toInt := (i_lt rfl rfl).mp c10) | skip
        have t12 : (-1 : Int32).toInt = -1 := rfl
        exact hQ (-1 : Int32) Z I L w_I bd_Z q_I cp_Z 
      · skip
        first | (have t13 : ¬ ((999) < v2.toInt) := (not_congr (i_lt (show (999 : Int32).toInt = 999 from rfl) rfl)).mp c10) | (have t13 : ¬ ((999 : Int32).toInt < v2.toInt) := (not_congr (i_lt rfl rfl)).mp c10) | skip
        intro b14 eb14
        obtain ⟨x15, ex15, kb14⟩ := sh_o w_I.1 kv0 (j := 2) (k := 8) rfl
        cases eb14.symm.trans ex15
        refine s_X8_has w_I b14 v3 kb14   (fun r16 p17 => ?_)
        have rr16 := i_rng r16
        refine ⟨fun c18 => ?_, fun c18 => ?_⟩
        · skip
          first | (have t19 : ¬ (r16.toInt = (0)) := (not_congr (i_eq rfl (show (0 : Int32).toInt = 0 from rfl))).mp c18) | (have t19 : ¬ (r16.toInt = (0 : Int32).toInt) := (not_congr (i_eq rfl rfl)).mp c18) | skip
          intro b20 eb20
          obtain ⟨x21, ex21, kb20⟩ := sh_o w_I.1 kb3 (j := 8) (k := 6) rfl
          cases eb20.symm.trans ex21
          have t22 : (-1 : Int32).toInt = -1 := rfl
          refine s_X6_lay w_I b20 (I b3 3) (I b3 4) (-1 : Int32) kb20   (fun  I23 L24 w_I23 f_I23  => ?_)
          have q_I23 : FR Ws_X11_trod Z I Z I23 := q_I.trans w_I.1 w_I.2.1 (f_I23.mono (by decide))
          have u25 : (I23 b3 3).toInt = (I b3 3).toInt := by rw [f_I23.2.2.1 b3 5 3 kb3 (by decide) (by decide)]
          have u26 : (I23 b3 4).toInt = (I b3 4).toInt := by rw [f_I23.2.2.1 b3 5 4 kb3 (by decide) (by decide)]
          intro b27 eb27
          obtain ⟨x28, ex28, kb27⟩ := sh_o w_I23.1 kv0 (j := 9) (k := 0) rfl
          cases eb27.symm.trans ex28
          intro b29 eb29
          obtain rfl : b20 = b29 := Option.some.inj (eb20.symm.trans eb29)
          have t30 : (-1 : Int32).toInt = -1 := rfl
          obtain ⟨b31, eb31, kb31⟩ := sh_o w_I23.1 kb27 (j := 0) (k := 7) rfl
          have t32 := capN0 kb27 eb31
          refine s_X0_tally w_I23 bd_Z b27 b20 v2 (-1 : Int32) kb27 kb20 b31 eb31  (fun r33 Z36 I34 L35 w_I34 bd_Z36 f_I34 c_Z36  => ?_)
          have q_I34 : FR Ws_X11_trod Z I Z36 I34 := q_I23.trans w_I.1 w_I.2.1 (f_I34.mono (by decide))
          have cp_Z36 : CP Z Z36 := cp_Z.trans q_I23.1 c_Z36
          have x_Z36 := f_I34.1
          have k37 := (f_I34.1 _ _ kv0).1
          have k38 := (f_I34.1 _ _ kb3).1
          have k39 := (f_I34.1 _ _ kb14).1
          have k40 := (f_I34.1 _ _ kv0).1
          have e41 := (f_I34.2.1 v0 11 2 kv0 (by decide) (by decide)).trans eb14
          have k42 := (f_I34.1 _ _ kb20).1
          have k43 := (f_I34.1 _ _ kb3).1
          have e44 := (f_I34.2.1 b3 5 8 kb3 (by decide) (by decide)).trans eb20
          have k45 := (f_I34.1 _ _ kb27).1
          have k46 := (f_I34.1 _ _ kv0).1
          have e47 := (f_I34.2.1 v0 11 9 kv0 (by decide) (by decide)).trans eb27
          have k48 := (f_I34.1 _ _ kb31).1
          have k49 := (f_I34.1 _ _ kb27).1
          have e50 := (f_I34.2.1 b27 0 0 kb27 (by decide) (by decide)).trans eb31
          have u51 : (I34 b3 3).toInt = (I23 b3 3).toInt := by rw [f_I34.2.2.1 b3 5 3 kb3 (by decide) (by decide)]
          have u52 : (I34 b3 4).toInt = (I23 b3 4).toInt := by rw [f_I34.2.2.1 b3 5 4 kb3 (by decide) (by decide)]
          refine ⟨fun c53 => ?_, fun c53 => ?_⟩
          · skip
            first | (have t54 : ¬ ((lg_cmp r33 (0 : Int64)).toInt = (0)) := (not_congr (i_eq rfl (show (0 : Int32).toInt = 0 from rfl))).mp c53) | (have t54 : ¬ ((lg_cmp r33 (0 : Int64)).toInt = (0 : Int32).toInt) := (not_congr (i_eq rfl rfl)).mp c53) | skip
            intro b55 eb55
            obtain rfl : b27 = b55 := Option.some.inj (e47.symm.trans eb55)
            intro b56 eb56
            obtain rfl : b20 = b56 := Option.some.inj (e44.symm.trans eb56)
            refine s_X0_tally w_I34 bd_Z36 b27 b20 v2 v3 k45 k42 b31 e50  (fun r57 Z60 I58 L59 w_I58 bd_Z60 f_I58 c_Z60  => ?_)
            have q_I58 : FR Ws_X11_trod Z I Z60 I58 := q_I34.trans w_I.1 w_I.2.1 (f_I58.mono (by decide))
            have cp_Z60 : CP Z Z60 := cp_Z36.trans q_I34.1 c_Z60
            have x_Z60 := f_I58.1
            have k61 := (f_I58.1 _ _ k37).1
            have k62 := (f_I58.1 _ _ k38).1
            have k63 := (f_I58.1 _ _ k39).1
            have k64 := (f_I58.1 _ _ k40).1
            have e65 := (f_I58.2.1 v0 11 2 k40 (by decide) (by decide)).trans e41
            have k66 := (f_I58.1 _ _ k42).1
            have k67 := (f_I58.1 _ _ k43).1
            have e68 := (f_I58.2.1 b3 5 8 k43 (by decide) (by decide)).trans e44
            have k69 := (f_I58.1 _ _ k45).1
            have k70 := (f_I58.1 _ _ k46).1
            have e71 := (f_I58.2.1 v0 11 9 k46 (by decide) (by decide)).trans e47
            have k72 := (f_I58.1 _ _ k48).1
            have k73 := (f_I58.1 _ _ k49).1
            have e74 := (f_I58.2.1 b27 0 0 k49 (by decide) (by decide)).trans e50
            have u75 : (I58 b3 3).toInt = (I34 b3 3).toInt := by rw [f_I58.2.2.1 b3 5 3 k38 (by decide) (by decide)]
            have u76 : (I58 b3 4).toInt = (I34 b3 4).toInt := by rw [f_I58.2.2.1 b3 5 4 k38 (by decide) (by decide)]
            refine s_X11_tellFraction w_I58 v0 r57 r33 k61   (fun  I77 L78 w_I77 f_I77  => ?_)
            have q_I77 : FR Ws_X11_trod Z I Z60 I77 := q_I58.trans w_I.1 w_I.2.1 (f_I77.mono (by decide))
            have u79 : (I77 b3 3).toInt = (I58 b3 3).toInt := by rw [f_I77.2.2.1 b3 5 3 k62 (by decide) (by decide)]
            have u80 : (I77 b3 4).toInt = (I58 b3 4).toInt := by rw [f_I77.2.2.1 b3 5 4 k62 (by decide) (by decide)]
            have t81 : (0 : Int32).toInt = 0 := rfl
            exact hQ (0 : Int32) Z60 I77 L78 w_I77 bd_Z60 q_I77 cp_Z60 
          · skip
            first | (have t82 : (lg_cmp r33 (0 : Int64)).toInt = (0) := (i_eq rfl (show (0 : Int32).toInt = 0 from rfl)).mp c53) | (have t82 : (lg_cmp r33 (0 : Int64)).toInt = (0 : Int32).toInt := (i_eq rfl rfl).mp c53) | skip
            have t83 : (-2 : Int32).toInt = -2 := rfl
            exact hQ (-2 : Int32) Z36 I34 L35 w_I34 bd_Z36 q_I34 cp_Z36 
        · skip
          first | (have t84 : r16.toInt = (0) := (i_eq rfl (show (0 : Int32).toInt = 0 from rfl)).mp c18) | (have t84 : r16.toInt = (0 : Int32).toInt := (i_eq rfl rfl).mp c18) | skip
          have t85 : (-1 : Int32).toInt = -1 := rfl
          exact hQ (-1 : Int32) Z I L w_I bd_Z q_I cp_Z 
def Ws_X11_who : List (Nat × Nat) := [(3, 2), (6, 4), (6, 5), (6, 6), (6, 7), (6, 14), (6, 15), (7, 1), (7, 2), (7, 3), (7, 4), (7, 5), (7, 8), (7, 9), (8, 8)]
set_option maxHeartbeats 4000000 in
set_option maxRecDepth 100000 in
theorem l_X11_who_L29 {B : Nat × Nat} {T : Nat} {Z0 : jZ} {I0 : jI} {Q : Int32 → jZ → jI → jL → Prop} (w0 : WD Z0 I0) (v0 : Nat) (v1 : Int32) (v2 : Int32) (kv0 : jk Z0 v0 11) (hQ : ∀ (r : Int32) (Z' : jZ) (I' : jI) (L' : jL), WD Z' I' → BUD B Z' T → FR Ws_X11_who Z0 I0 Z' I' → CP Z0 Z' → Q r Z' I' L') : ∀ (n : Nat) (v3 : Int32) (v4 : Int32) (Z : jZ) (I : jI) (L : jL), WD Z I → BUD B Z T → FR Ws_X11_who Z0 I0 Z I → CP Z0 Z →   (0 ≤ v4.toInt ∧ v4.toInt ≤ 6) → 6 - v4.toInt < (n : Int) → f_X11_who_L29 B  Q n v0 v1 v2 v3 v4 Z I L := by
  intro n
  induction n with
  | zero =>
    intro v3 v4 Z I L w_I bd_Z q_I cp_Z   li  me
    exfalso
    omega
  | succ n ih =>
    intro v3 v4 Z I L w_I bd_Z q_I cp_Z   li  me
    unfold f_X11_who_L29
    have rv3 := i_rng v3
    have rv4 := i_rng v4
    have rv1 := i_rng v1
    have rv2 := i_rng v2
    have kv0_0 := kv0
    have kv0 := (q_I.1 _ _ kv0).1
    have xq_I := q_I.1
    have t2 : 0 ≤ (I v0 4).toInt ∧ (I v0 4).toInt ≤ 6 := w_I.fld 11 4 kv0 (by decide)
    refine ⟨fun c3 => ?_, fun c3 => ?_⟩
    · skip
      first | (have t4 : (I v0 4).toInt ≤ v4.toInt := (i_le rfl rfl).mp c3) | (have t4 : (I v0 4).toInt ≤ v4.toInt := (i_le rfl rfl).mp c3) | skip
      exact hQ v3 Z I L w_I bd_Z q_I cp_Z 
    · skip
      first | (have t5 : ¬ ((I v0 4).toInt ≤ v4.toInt) := (not_congr (i_le rfl rfl)).mp c3) | (have t5 : ¬ ((I v0 4).toInt ≤ v4.toInt) := (not_congr (i_le rfl rfl)).mp c3) | skip
      refine s_X11_find w_I v0 v4 kv0   (fun r6 p7 => ?_)
      refine ⟨fun c9 => ?_, fun b8 c9 => ?_⟩
      · skip
        unfold f_X11_who_b100
        intro x10 ex10
        have rx10 := i_rng x10
        first | (have tx10 : x10.toInt = v4.toInt + (1) := by (rw [ex10]; exact (i_add rfl (show (1 : Int32).toInt = 1 from rfl) (by omega) (by omega)))) | skip
        exact ih v3 x10 Z I L w_I bd_Z q_I cp_Z   (by omega)  (by omega)
      · skip
        have kb8 : jk Z b8 5 := by first | exact p7 b8 c9 | exact (p7 b8 c9).1 | exact (p7.1 b8 c9).1
        intro b11 eb11
        obtain ⟨x12, ex12, kb11⟩ := sh_o w_I.1 kb8 (j := 8) (k := 6) rfl
        cases eb11.symm.trans ex12
        have t13 : (-1 : Int32).toInt = -1 := rfl
        refine s_X6_lay w_I b11 (I b8 3) (I b8 4) (-1 : Int32) kb11   (fun  I14 L15 w_I14 f_I14  => ?_)
        have q_I14 : FR Ws_X11_who Z0 I0 Z I14 := q_I.trans w0.1 w0.2.1 (f_I14.mono (by decide))
        have u16 : (I14 v0 4).toInt = (I v0 4).toInt := by rw [f_I14.2.2.1 v0 11 4 kv0 (by decide) (by decide)]
        have u17 : (I14 b8 3).toInt = (I b8 3).toInt := by rw [f_I14.2.2.1 b8 5 3 kb8 (by decide) (by decide)]
        have u18 : (I14 b8 4).toInt = (I b8 4).toInt := by rw [f_I14.2.2.1 b8 5 4 kb8 (by decide) (by decide)]
        intro b19 eb19
        obtain ⟨x20, ex20, kb19⟩ := sh_o w_I14.1 kv0 (j := 9) (k := 0) rfl
        cases eb19.symm.trans ex20
        intro b21 eb21
        obtain rfl : b11 = b21 := Option.some.inj (eb11.symm.trans eb21)
        obtain ⟨b22, eb22, kb22⟩ := sh_o w_I14.1 kb19 (j := 0) (k := 7) rfl
        have t23 := capN0 kb19 eb22
        refine s_X0_tally w_I14 bd_Z b19 b11 v1 v2 kb19 kb11 b22 eb22  (fun r24 Z27 I25 L26 w_I25 bd_Z27 f_I25 c_Z27  => ?_)
        have q_I25 : FR Ws_X11_who Z0 I0 Z27 I25 := q_I14.trans w0.1 w0.2.1 (f_I25.mono (by decide))
        have cp_Z27 : CP Z0 Z27 := cp_Z.trans q_I14.1 c_Z27
        have x_Z27 := f_I25.1
        have k28 := (f_I25.1 _ _ kv0).1
        have k29 := (f_I25.1 _ _ kb8).1
        have k30 := (f_I25.1 _ _ kb11).1
        have k31 := (f_I25.1 _ _ kb8).1
        have e32 := (f_I25.2.1 b8 5 8 kb8 (by decide) (by decide)).trans eb11
        have k33 := (f_I25.1 _ _ kb19).1
        have k34 := (f_I25.1 _ _ kv0).1
        have e35 := (f_I25.2.1 v0 11 9 kv0 (by decide) (by decide)).trans eb19
        have k36 := (f_I25.1 _ _ kb22).1
        have k37 := (f_I25.1 _ _ kb19).1
        have e38 := (f_I25.2.1 b19 0 0 kb19 (by decide) (by decide)).trans eb22
        have u39 : (I25 v0 4).toInt = (I14 v0 4).toInt := by rw [f_I25.2.2.1 v0 11 4 kv0 (by decide) (by decide)]
        have u40 : (I25 b8 3).toInt = (I14 b8 3).toInt := by rw [f_I25.2.2.1 b8 5 3 kb8 (by decide) (by decide)]
        have u41 : (I25 b8 4).toInt = (I14 b8 4).toInt := by rw [f_I25.2.2.1 b8 5 4 kb8 (by decide) (by decide)]
        refine ⟨fun c42 => ?_, fun c42 => ?_⟩
        · skip
          first | (have t43 : (lg_cmp r24 (0 : Int64)).toInt ≤ (0) := (i_le rfl (show (0 : Int32).toInt = 0 from rfl)).mp c42) | (have t43 : (lg_cmp r24 (0 : Int64)).toInt ≤ (0 : Int32).toInt := (i_le rfl rfl).mp c42) | skip
          unfold f_X11_who_b98
          intro x44 ex44
          have rx44 := i_rng x44
          first | (have tx44 : x44.toInt = (v3 ||| (0 : Int32)).toInt := by (rw [ex44]; exact rfl)) | (have tx44 : x44.toInt = (v3 ||| (0 : Int32)).toInt := by rw [ex44])
          unfold f_X11_who_b100
          intro x45 ex45
          have rx45 := i_rng x45
          first | (have tx45 : x45.toInt = v4.toInt + (1) := by (rw [ex45]; exact (i_add rfl (show (1 : Int32).toInt = 1 from rfl) (by omega) (by omega)))) | skip
          exact ih x44 x45 Z27 I25 L26 w_I25 bd_Z27 q_I25 cp_Z27   (by omega)  (by omega)
        · skip
          first | (have t46 : ¬ ((lg_cmp r24 (0 : Int64)).toInt ≤ (0)) := (not_congr (i_le rfl (show (0 : Int32).toInt = 0 from rfl))).mp c42) | (have t46 : ¬ ((lg_cmp r24 (0 : Int64)).toInt ≤ (0 : Int32).toInt) := (not_congr (i_le rfl rfl)).mp c42) | skip
          unfold f_X11_who_b98
          intro x47 ex47
          have rx47 := i_rng x47
          first | (have tx47 : x47.toInt = (v3 ||| ((1 : Int32) <<< (v4 &&& 31))).toInt := by (rw [ex47]; exact rfl)) | (have tx47 : x47.toInt = (v3 ||| ((1 : Int32) <<< (v4 &&& 31))).toInt := by rw [ex47])
          unfold f_X11_who_b100
          intro x48 ex48
          have rx48 := i_rng x48
          first | (have tx48 : x48.toInt = v4.toInt + (1) := by (rw [ex48]; exact (i_add rfl (show (1 : Int32).toInt = 1 from rfl) (by omega) (by omega)))) | skip
          exact ih x47 x48 Z27 I25 L26 w_I25 bd_Z27 q_I25 cp_Z27   (by omega)  (by omega)
set_option maxHeartbeats 4000000 in
set_option maxRecDepth 100000 in
theorem s_X11_who {B : Nat × Nat} {T : Nat} {Z : jZ} {I : jI} {L : jL} (w_I : WD Z I) (bd_Z : BUD B Z T) (v0 : Nat) (v1 : Int32) (v2 : Int32) (kv0 : jk Z v0 11) {Q : Int32 → jZ → jI → jL → Prop} (hQ : ∀ (r : Int32) (Z' : jZ) (I' : jI) (L' : jL), WD Z' I' → BUD B Z' T → FR Ws_X11_who Z I Z' I' → CP Z Z' → Q r Z' I' L') : f_X11_who B v0 v1 v2 Z I L Q := by
  unfold f_X11_who
  have q_I : FR Ws_X11_who Z I Z I := FR.rf
  have cp_Z : CP Z Z := CP.rf
  have rv1 := i_rng v1
  have rv2 := i_rng v2
  refine ⟨fun c49 => ?_, fun c49 => ?_⟩
  · skip
    first | (have t50 : v1.toInt < (0) := (i_lt rfl (show (0 : Int32).toInt = 0 from rfl)).mp c49) | (have t50 : v1.toInt < (0 : Int32).toInt := (i_lt rfl rfl).mp c49) | skip
    have t51 : (-1 : Int32).toInt = -1 := rfl
    exact hQ (-1 : Int32) Z I L w_I bd_Z q_I cp_Z 
  · skip
    first | (have t52 : ¬ (v1.toInt < (0)) := (not_congr (i_lt rfl (show (0 : Int32).toInt = 0 from rfl))).mp c49) | (have t52 : ¬ (v1.toInt < (0 : Int32).toInt) := (not_congr (i_lt rfl rfl)).mp c49) | skip
    refine ⟨fun c53 => ?_, fun c53 => ?_⟩
    · skip
      first | (have t54 : (999) < v1.toInt := (i_lt (show (999 : Int32).toInt = 999 from rfl) rfl).mp c53) | (have t54 : (999 : Int32).toInt < v1.toInt := (i_lt rfl rfl).mp c53) | skip
      have t55 : (-1 : Int32).toInt = -1 := rfl
      exact hQ (-1 : Int32) Z I L w_I bd_Z q_I cp_Z 
    · skip
      first | (have t56 : ¬ ((999) < v1.toInt) := (not_congr (i_lt (show (999 : Int32).toInt = 999 from rfl) rfl)).mp c53) | (have t56 : ¬ ((999 : Int32).toInt < v1.toInt) := (not_congr (i_lt rfl rfl)).mp c53) | skip
      intro b57 eb57
      obtain ⟨x58, ex58, kb57⟩ := sh_o w_I.1 kv0 (j := 2) (k := 8) rfl
      cases eb57.symm.trans ex58
      refine s_X8_has w_I b57 v2 kb57   (fun r59 p60 => ?_)
      have rr59 := i_rng r59
      refine ⟨fun c61 => ?_, fun c61 => ?_⟩
      · skip
        first | (have t62 : ¬ (r59.toInt = (0)) := (not_congr (i_eq rfl (show (0 : Int32).toInt = 0 from rfl))).mp c61) | (have t62 : ¬ (r59.toInt = (0 : Int32).toInt) := (not_congr (i_eq rfl rfl)).mp c61) | skip
        have t63 : (0 : Int32).toInt = 0 := rfl
        have t64 : (0 : Int32).toInt = 0 := rfl
        exact ⟨(6 - (0 : Int32).toInt).toNat + 1, l_X11_who_L29 w_I v0 v1 v2 kv0   hQ   _ (0 : Int32) (0 : Int32) Z I L w_I bd_Z q_I cp_Z   (by omega)  (by omega)⟩
      · skip
        first | (have t65 : r59.toInt = (0) := (i_eq rfl (show (0 : Int32).toInt = 0 from rfl)).mp c61) | (have t65 : r59.toInt = (0 : Int32).toInt := (i_eq rfl rfl).mp c61) | skip
        have t66 : (-1 : Int32).toInt = -1 := rfl
        exact hQ (-1 : Int32) Z I L w_I bd_Z q_I cp_Z 
def Ws_X11_next : List (Nat × Nat) := [(3, 2), (6, 4), (6, 5), (6, 6), (6, 7), (6, 14), (6, 15), (7, 1), (7, 2), (7, 3), (7, 4), (7, 5), (7, 8), (7, 9), (8, 8), (11, 16)]
set_option maxHeartbeats 4000000 in
set_option maxRecDepth 100000 in
theorem s_X11_next {B : Nat × Nat} {T : Nat} {Z : jZ} {I : jI} {L : jL} (w_I : WD Z I) (bd_Z : BUD B Z T) (v0 : Nat) (v1 : Int32) (v2 : Int32) (kv0 : jk Z v0 11) {Q : Int32 → jZ → jI → jL → Prop} (hQ : ∀ (r : Int32) (Z' : jZ) (I' : jI) (L' : jL), WD Z' I' → BUD B Z' T → FR Ws_X11_next Z I Z' I' → CP Z Z' → Q r Z' I' L') : f_X11_next B v0 v1 v2 Z I L Q := by
  unfold f_X11_next
  have q_I : FR Ws_X11_next Z I Z I := FR.rf
  have cp_Z : CP Z Z := CP.rf
  have rv1 := i_rng v1
  have rv2 := i_rng v2
  refine s_X11_find w_I v0 v1 kv0   (fun r1 p2 => ?_)
  refine ⟨fun c4 => ?_, fun b3 c4 => ?_⟩
  · skip
    have t5 : (-1 : Int32).toInt = -1 := rfl
    exact hQ (-1 : Int32) Z I L w_I bd_Z q_I cp_Z 
  · skip
    have kb3 : jk Z b3 5 := by first | exact p2 b3 c4 | exact (p2 b3 c4).1 | exact (p2.1 b3 c4).1
    refine ⟨fun c6 => ?_, fun c6 => ?_⟩
    · skip
      first | (have t7 : v2.toInt < (-1) := (i_lt rfl (show (-1 : Int32).toInt = -1 from rfl)).mp c6) | (have t7 : v2.toInt < (-1 : Int32).toInt := (i_lt rfl rfl).mp c6) | skip
      have t8 : (-1 : Int32).toInt = -1 := rfl
      exact hQ (-1 : Int32) Z I L w_I bd_Z q_I cp_Z 
    · skip
      first | (have t9 : ¬ (v2.toInt < (-1)) := (not_congr (i_lt rfl (show (-1 : Int32).toInt = -1 from rfl))).mp c6) | (have t9 : ¬ (v2.toInt < (-1 : Int32).toInt) := (not_congr (i_lt rfl rfl)).mp c6) | skip
      refine ⟨fun c10 => ?_, fun c10 => ?_⟩
      · skip
        first | (have t11 : (999) ≤ v2.toInt := (i_le (show (999 : Int32).toInt = 999 from rfl) rfl).mp c10) | (have t11 : (999 : Int32).toInt ≤ v2.toInt := (i_le rfl rfl).mp c10) | skip
        have t12 : (-1 : Int32).toInt = -1 := rfl
        exact hQ (-1 : Int32) Z I L w_I bd_Z q_I cp_Z 
      · skip
        first | (have t13 : ¬ ((999) ≤ v2.toInt) := (not_congr (i_le (show (999 : Int32).toInt = 999 from rfl) rfl)).mp c10) | (have t13 : ¬ ((999 : Int32).toInt ≤ v2.toInt) := (not_congr (i_le rfl rfl)).mp c10) | skip
        intro b14 eb14
        obtain ⟨x15, ex15, kb14⟩ := sh_o w_I.1 kv0 (j := 2) (k := 8) rfl
        cases eb14.symm.trans ex15
        have t17 : 0 ≤ (I b14 9).toInt ∧ (I b14 9).toInt ≤ 24 := w_I.fld 8 9 kb14 (by decide)
        refine ⟨fun c18 => ?_, fun c18 => ?_⟩
        · skip
          first | (have t19 : ¬ ((I b14 9).toInt = (0)) := (not_congr (i_eq rfl (show (0 : Int32).toInt = 0 from rfl))).mp c18) | (have t19 : ¬ ((I b14 9).toInt = (0 : Int32).toInt) := (not_congr (i_eq rfl rfl)).mp c18) | skip
          intro b20 eb20
          obtain ⟨x21, ex21, kb20⟩ := sh_o w_I.1 kb3 (j := 8) (k := 6) rfl
          cases eb20.symm.trans ex21
          have t22 : (-1 : Int32).toInt = -1 := rfl
          refine s_X6_lay w_I b20 (I b3 3) (I b3 4) (-1 : Int32) kb20   (fun  I23 L24 w_I23 f_I23  => ?_)
          have q_I23 : FR Ws_X11_next Z I Z I23 := q_I.trans w_I.1 w_I.2.1 (f_I23.mono (by decide))
          have u25 : (I23 b14 9).toInt = (I b14 9).toInt := by rw [f_I23.2.2.1 b14 8 9 kb14 (by decide) (by decide)]
          have u26 : (I23 b3 3).toInt = (I b3 3).toInt := by rw [f_I23.2.2.1 b3 5 3 kb3 (by decide) (by decide)]
          have u27 : (I23 b3 4).toInt = (I b3 4).toInt := by rw [f_I23.2.2.1 b3 5 4 kb3 (by decide) (by decide)]
          intro b28 eb28
          obtain ⟨x29, ex29, kb28⟩ := sh_o w_I23.1 kv0 (j := 9) (k := 0) rfl
          cases eb28.symm.trans ex29
          intro b30 eb30
          obtain rfl : b20 = b30 := Option.some.inj (eb20.symm.trans eb30)
          obtain ⟨b31, eb31, kb31⟩ := sh_o w_I23.1 kb28 (j := 0) (k := 7) rfl
          have t32 := capN0 kb28 eb31
          refine s_X0_firstAbove w_I23 bd_Z b28 b20 v2 kb28 kb20 b31 eb31  (fun r33 Z36 I34 L35 w_I34 bd_Z36 f_I34 c_Z36  => ?_)
          have q_I34 : FR Ws_X11_next Z I Z36 I34 := q_I23.trans w_I.1 w_I.2.1 (f_I34.mono (by decide))
          have cp_Z36 : CP Z Z36 := cp_Z.trans q_I23.1 c_Z36
          have x_Z36 := f_I34.1
          have k37 := (f_I34.1 _ _ kv0).1
          have k38 := (f_I34.1 _ _ kb3).1
          have k39 := (f_I34.1 _ _ kb14).1
          have k40 := (f_I34.1 _ _ kv0).1
          have e41 := (f_I34.2.1 v0 11 2 kv0 (by decide) (by decide)).trans eb14
          have k42 := (f_I34.1 _ _ kb20).1
          have k43 := (f_I34.1 _ _ kb3).1
          have e44 := (f_I34.2.1 b3 5 8 kb3 (by decide) (by decide)).trans eb20
          have k45 := (f_I34.1 _ _ kb28).1
          have k46 := (f_I34.1 _ _ kv0).1
          have e47 := (f_I34.2.1 v0 11 9 kv0 (by decide) (by decide)).trans eb28
          have k48 := (f_I34.1 _ _ kb31).1
          have k49 := (f_I34.1 _ _ kb28).1
          have e50 := (f_I34.2.1 b28 0 0 kb28 (by decide) (by decide)).trans eb31
          have u51 : (I34 b14 9).toInt = (I23 b14 9).toInt := by rw [f_I34.2.2.1 b14 8 9 kb14 (by decide) (by decide)]
          have u52 : (I34 b3 3).toInt = (I23 b3 3).toInt := by rw [f_I34.2.2.1 b3 5 3 kb3 (by decide) (by decide)]
          have u53 : (I34 b3 4).toInt = (I23 b3 4).toInt := by rw [f_I34.2.2.1 b3 5 4 kb3 (by decide) (by decide)]
          refine ⟨fun c54 => ?_, fun c54 => ?_⟩
          · skip
            first | (have t55 : ¬ ((lg_cmp r33 (9223372036854775807 : Int64)).toInt = (0)) := (not_congr (i_eq rfl (show (0 : Int32).toInt = 0 from rfl))).mp c54) | (have t55 : ¬ ((lg_cmp r33 (9223372036854775807 : Int64)).toInt = (0 : Int32).toInt) := (not_congr (i_eq rfl rfl)).mp c54) | skip
            refine s_X11_effortIn w_I34 r33    (fun r56 p57 => ?_)
            have rr56 := i_rng r56
            refine s_X11_tellOne w_I34 v0 (r56.toInt64) k37   (fun  I58 L59 w_I58 f_I58  => ?_)
            have q_I58 : FR Ws_X11_next Z I Z36 I58 := q_I34.trans w_I.1 w_I.2.1 (f_I58.mono (by decide))
            have u60 : (I58 b14 9).toInt = (I34 b14 9).toInt := by rw [f_I58.2.2.1 b14 8 9 k39 (by decide) (by decide)]
            have u61 : (I58 b3 3).toInt = (I34 b3 3).toInt := by rw [f_I58.2.2.1 b3 5 3 k38 (by decide) (by decide)]
            have u62 : (I58 b3 4).toInt = (I34 b3 4).toInt := by rw [f_I58.2.2.1 b3 5 4 k38 (by decide) (by decide)]
            refine s_X11_costIn w_I58 r33    (fun r63  => ?_)
            have rr63 := i_rng r63
            exact hQ r63 Z36 I58 L59 w_I58 bd_Z36 q_I58 cp_Z36 
          · skip
            first | (have t64 : (lg_cmp r33 (9223372036854775807 : Int64)).toInt = (0) := (i_eq rfl (show (0 : Int32).toInt = 0 from rfl)).mp c54) | (have t64 : (lg_cmp r33 (9223372036854775807 : Int64)).toInt = (0 : Int32).toInt := (i_eq rfl rfl).mp c54) | skip
            have t65 : (-2 : Int32).toInt = -2 := rfl
            exact hQ (-2 : Int32) Z36 I34 L35 w_I34 bd_Z36 q_I34 cp_Z36 
        · skip
          first | (have t66 : (I b14 9).toInt = (0) := (i_eq rfl (show (0 : Int32).toInt = 0 from rfl)).mp c18) | (have t66 : (I b14 9).toInt = (0 : Int32).toInt := (i_eq rfl rfl).mp c18) | skip
          have t67 : (-1 : Int32).toInt = -1 := rfl
          exact hQ (-1 : Int32) Z I L w_I bd_Z q_I cp_Z 
def Ws_X11_bears : List (Nat × Nat) := [(3, 2), (6, 4), (6, 5), (6, 6), (6, 7), (6, 14), (6, 15), (7, 1), (7, 2), (7, 3), (7, 4), (7, 5), (7, 8), (7, 9), (8, 8), (11, 16)]
set_option maxHeartbeats 4000000 in
set_option maxRecDepth 100000 in
theorem l_X11_bears_L25 {B : Nat × Nat} {T : Nat} {Z0 : jZ} {I0 : jI} {Q : Int32 → jZ → jI → jL → Prop} (w0 : WD Z0 I0) (v0 : Nat) (v1 : Int32) (kv0 : jk Z0 v0 11) (v2 : Nat) (hQ : ∀ (r : Int32) (Z' : jZ) (I' : jI) (L' : jL), WD Z' I' → BUD B Z' T → FR Ws_X11_bears Z0 I0 Z' I' → CP Z0 Z' → Q r Z' I' L') : ∀ (n : Nat) (v3 : Int32) (Z : jZ) (I : jI) (L : jL), WD Z I → BUD B Z T → FR Ws_X11_bears Z0 I0 Z I → CP Z0 Z → jk Z v2 5 →  (-1 ≤ v3.toInt ∧ v3.toInt ≤ 50) → v3.toInt + 1 < (n : Int) → f_X11_bears_L25 B  Q n v0 v2 v3 Z I L := by
  intro n
  induction n with
  | zero =>
    intro v3 Z I L w_I bd_Z q_I cp_Z kv2  li  me
    exfalso
    omega
  | succ n ih =>
    intro v3 Z I L w_I bd_Z q_I cp_Z kv2  li  me
    unfold f_X11_bears_L25
    have rv3 := i_rng v3
    have rv1 := i_rng v1
    have kv0_0 := kv0
    have kv0 := (q_I.1 _ _ kv0).1
    have xq_I := q_I.1
    refine ⟨fun c1 => ?_, fun c1 => ?_⟩
    · skip
      first | (have t2 : v3.toInt < (0) := (i_lt rfl (show (0 : Int32).toInt = 0 from rfl)).mp c1) | (have t2 : v3.toInt < (0 : Int32).toInt := (i_lt rfl rfl).mp c1) | skip
      have t3 : (-2 : Int32).toInt = -2 := rfl
      exact hQ (-2 : Int32) Z I L w_I bd_Z q_I cp_Z 
    · skip
      first | (have t4 : ¬ (v3.toInt < (0)) := (not_congr (i_lt rfl (show (0 : Int32).toInt = 0 from rfl))).mp c1) | (have t4 : ¬ (v3.toInt < (0 : Int32).toInt) := (not_congr (i_lt rfl rfl)).mp c1) | skip
      intro b5 eb5
      obtain ⟨x6, ex6, kb5⟩ := sh_o w_I.1 kv2 (j := 8) (k := 6) rfl
      cases eb5.symm.trans ex6
      have t7 : (-1 : Int32).toInt = -1 := rfl
      refine s_X6_lay w_I b5 v3 (I v2 4) (-1 : Int32) kb5   (fun  I8 L9 w_I8 f_I8  => ?_)
      have q_I8 : FR Ws_X11_bears Z0 I0 Z I8 := q_I.trans w0.1 w0.2.1 (f_I8.mono (by decide))
      have u10 : (I8 v2 4).toInt = (I v2 4).toInt := by rw [f_I8.2.2.1 v2 5 4 kv2 (by decide) (by decide)]
      intro b11 eb11
      obtain rfl : b5 = b11 := Option.some.inj (eb5.symm.trans eb11)
      refine s_X6_cheapest w_I8 bd_Z b5 kb5   (fun r12 Z15 I13 L14 w_I13 bd_Z15 f_I13 c_Z15  => ?_)
      have q_I13 : FR Ws_X11_bears Z0 I0 Z15 I13 := q_I8.trans w0.1 w0.2.1 (f_I13.mono (by decide))
      have cp_Z15 : CP Z0 Z15 := cp_Z.trans q_I8.1 c_Z15
      have x_Z15 := f_I13.1
      have k16 := (f_I13.1 _ _ kv0).1
      have k17 := (f_I13.1 _ _ kv2).1
      have k18 := (f_I13.1 _ _ kb5).1
      have k19 := (f_I13.1 _ _ kv2).1
      have e20 := (f_I13.2.1 v2 5 8 kv2 (by decide) (by decide)).trans eb5
      have u21 : (I13 v2 4).toInt = (I8 v2 4).toInt := by rw [f_I13.2.2.1 v2 5 4 kv2 (by decide) (by decide)]
      refine ⟨fun c22 => ?_, fun c22 => ?_⟩
      · skip
        first | (have t23 : (lg_cmp r12 (9223372036854775807 : Int64)).toInt = (0) := (i_eq rfl (show (0 : Int32).toInt = 0 from rfl)).mp c22) | (have t23 : (lg_cmp r12 (9223372036854775807 : Int64)).toInt = (0 : Int32).toInt := (i_eq rfl rfl).mp c22) | skip
        intro x24 ex24
        have rx24 := i_rng x24
        first | (have tx24 : x24.toInt = v3.toInt + (-1) := by (rw [ex24]; exact (i_add rfl (show (-1 : Int32).toInt = -1 from rfl) (by omega) (by omega)))) | skip
        exact ih x24 Z15 I13 L14 w_I13 bd_Z15 q_I13 cp_Z15 k17  (by omega)  (by omega)
      · skip
        first | (have t25 : ¬ ((lg_cmp r12 (9223372036854775807 : Int64)).toInt = (0)) := (not_congr (i_eq rfl (show (0 : Int32).toInt = 0 from rfl))).mp c22) | (have t25 : ¬ ((lg_cmp r12 (9223372036854775807 : Int64)).toInt = (0 : Int32).toInt) := (not_congr (i_eq rfl rfl)).mp c22) | skip
        refine s_X11_costIn w_I13 r12    (fun r26  => ?_)
        have rr26 := i_rng r26
        refine s_X11_tellOne w_I13 v0 (r26.toInt64) k16   (fun  I27 L28 w_I27 f_I27  => ?_)
        have q_I27 : FR Ws_X11_bears Z0 I0 Z15 I27 := q_I13.trans w0.1 w0.2.1 (f_I27.mono (by decide))
        have u29 : (I27 v2 4).toInt = (I13 v2 4).toInt := by rw [f_I27.2.2.1 v2 5 4 k17 (by decide) (by decide)]
        exact hQ v3 Z15 I27 L28 w_I27 bd_Z15 q_I27 cp_Z15 
set_option maxHeartbeats 4000000 in
set_option maxRecDepth 100000 in
theorem s_X11_bears {B : Nat × Nat} {T : Nat} {Z : jZ} {I : jI} {L : jL} (w_I : WD Z I) (bd_Z : BUD B Z T) (v0 : Nat) (v1 : Int32) (kv0 : jk Z v0 11) {Q : Int32 → jZ → jI → jL → Prop} (hQ : ∀ (r : Int32) (Z' : jZ) (I' : jI) (L' : jL), WD Z' I' → BUD B Z' T → FR Ws_X11_bears Z I Z' I' → CP Z Z' → Q r Z' I' L') : f_X11_bears B v0 v1 Z I L Q := by
  unfold f_X11_bears
  have q_I : FR Ws_X11_bears Z I Z I := FR.rf
  have cp_Z : CP Z Z := CP.rf
  have rv1 := i_rng v1
  refine s_X11_find w_I v0 v1 kv0   (fun r30 p31 => ?_)
  refine ⟨fun c33 => ?_, fun b32 c33 => ?_⟩
  · skip
    have t34 : (-1 : Int32).toInt = -1 := rfl
    exact hQ (-1 : Int32) Z I L w_I bd_Z q_I cp_Z 
  · skip
    have kb32 : jk Z b32 5 := by first | exact p31 b32 c33 | exact (p31 b32 c33).1 | exact (p31.1 b32 c33).1
    intro b35 eb35
    obtain ⟨x36, ex36, kb35⟩ := sh_o w_I.1 kv0 (j := 2) (k := 8) rfl
    cases eb35.symm.trans ex36
    have t38 : 0 ≤ (I b35 9).toInt ∧ (I b35 9).toInt ≤ 24 := w_I.fld 8 9 kb35 (by decide)
    refine ⟨fun c39 => ?_, fun c39 => ?_⟩
    · skip
      first | (have t40 : ¬ ((I b35 9).toInt = (0)) := (not_congr (i_eq rfl (show (0 : Int32).toInt = 0 from rfl))).mp c39) | (have t40 : ¬ ((I b35 9).toInt = (0 : Int32).toInt) := (not_congr (i_eq rfl rfl)).mp c39) | skip
      have t41 : (50 : Int32).toInt = 50 := rfl
      exact ⟨((50 : Int32).toInt + 1).toNat + 1, l_X11_bears_L25 w_I v0 v1 kv0 b32  hQ   _ (50 : Int32) Z I L w_I bd_Z q_I cp_Z kb32  (by omega)  (by omega)⟩
    · skip
      first | (have t42 : (I b35 9).toInt = (0) := (i_eq rfl (show (0 : Int32).toInt = 0 from rfl)).mp c39) | (have t42 : (I b35 9).toInt = (0 : Int32).toInt := (i_eq rfl rfl).mp c39) | skip
      have t43 : (-1 : Int32).toInt = -1 := rfl
      exact hQ (-1 : Int32) Z I L w_I bd_Z q_I cp_Z 
def Ws_X11_breaks : List (Nat × Nat) := [(3, 2), (6, 4), (6, 5), (6, 6), (6, 7), (6, 14), (6, 15), (7, 1), (7, 2), (7, 3), (7, 4), (7, 5), (7, 8), (7, 9), (8, 8), (11, 16)]
set_option maxHeartbeats 4000000 in
set_option maxRecDepth 100000 in
theorem l_X11_breaks_L31 {B : Nat × Nat} {T : Nat} {Z0 : jZ} {I0 : jI} {Q : Int32 → jZ → jI → jL → Prop} (w0 : WD Z0 I0) (v0 : Nat) (v1 : Int32) (kv0 : jk Z0 v0 11) (v2 : Nat) (hQ : ∀ (r : Int32) (Z' : jZ) (I' : jI) (L' : jL), WD Z' I' → BUD B Z' T → FR Ws_X11_breaks Z0 I0 Z' I' → CP Z0 Z' → Q r Z' I' L') : ∀ (n : Nat) (v3 : Int32) (v4 : Int32) (v5 : Int32) (Z : jZ) (I : jI) (L : jL), WD Z I → BUD B Z T → FR Ws_X11_breaks Z0 I0 Z I → CP Z0 Z → jk Z v2 5 →  (0 ≤ v5.toInt ∧ v5.toInt ≤ 8) → 8 - v5.toInt < (n : Int) → f_X11_breaks_L31 B  Q n v0 v2 v3 v4 v5 Z I L := by
  intro n
  induction n with
  | zero =>
    intro v3 v4 v5 Z I L w_I bd_Z q_I cp_Z kv2  li  me
    exfalso
    omega
  | succ n ih =>
    intro v3 v4 v5 Z I L w_I bd_Z q_I cp_Z kv2  li  me
    unfold f_X11_breaks_L31
    have rv3 := i_rng v3
    have rv4 := i_rng v4
    have rv5 := i_rng v5
    have rv1 := i_rng v1
    have kv0_0 := kv0
    have kv0 := (q_I.1 _ _ kv0).1
    have xq_I := q_I.1
    refine ⟨fun c1 => ?_, fun c1 => ?_⟩
    · skip
      first | (have t2 : (8) ≤ v5.toInt := (i_le (show (8 : Int32).toInt = 8 from rfl) rfl).mp c1) | (have t2 : (8 : Int32).toInt ≤ v5.toInt := (i_le rfl rfl).mp c1) | skip
      refine ⟨fun c3 => ?_, fun c3 => ?_⟩
      · skip
        first | (have t4 : v3.toInt = (-2) := (i_eq rfl (show (-2 : Int32).toInt = -2 from rfl)).mp c3) | (have t4 : v3.toInt = (-2 : Int32).toInt := (i_eq rfl rfl).mp c3) | skip
        exact hQ v3 Z I L w_I bd_Z q_I cp_Z 
      · skip
        first | (have t5 : ¬ (v3.toInt = (-2)) := (not_congr (i_eq rfl (show (-2 : Int32).toInt = -2 from rfl))).mp c3) | (have t5 : ¬ (v3.toInt = (-2 : Int32).toInt) := (not_congr (i_eq rfl rfl)).mp c3) | skip
        intro b6 eb6
        obtain ⟨x7, ex7, kb6⟩ := sh_o w_I.1 kv2 (j := 8) (k := 6) rfl
        cases eb6.symm.trans ex7
        have t8 : (-1 : Int32).toInt = -1 := rfl
        refine s_X6_lay w_I b6 (I v2 3) (I v2 4) (-1 : Int32) kb6   (fun  I9 L10 w_I9 f_I9  => ?_)
        have q_I9 : FR Ws_X11_breaks Z0 I0 Z I9 := q_I.trans w0.1 w0.2.1 (f_I9.mono (by decide))
        have u11 : (I9 v2 3).toInt = (I v2 3).toInt := by rw [f_I9.2.2.1 v2 5 3 kv2 (by decide) (by decide)]
        have u12 : (I9 v2 4).toInt = (I v2 4).toInt := by rw [f_I9.2.2.1 v2 5 4 kv2 (by decide) (by decide)]
        intro b13 eb13
        obtain rfl : b6 = b13 := Option.some.inj (eb6.symm.trans eb13)
        refine s_X6_cheapest w_I9 bd_Z b6 kb6   (fun r14 Z17 I15 L16 w_I15 bd_Z17 f_I15 c_Z17  => ?_)
        have q_I15 : FR Ws_X11_breaks Z0 I0 Z17 I15 := q_I9.trans w0.1 w0.2.1 (f_I15.mono (by decide))
        have cp_Z17 : CP Z0 Z17 := cp_Z.trans q_I9.1 c_Z17
        have x_Z17 := f_I15.1
        have k18 := (f_I15.1 _ _ kv0).1
        have k19 := (f_I15.1 _ _ kv2).1
        have k20 := (f_I15.1 _ _ kb6).1
        have k21 := (f_I15.1 _ _ kv2).1
        have e22 := (f_I15.2.1 v2 5 8 kv2 (by decide) (by decide)).trans eb6
        have u23 : (I15 v2 3).toInt = (I9 v2 3).toInt := by rw [f_I15.2.2.1 v2 5 3 kv2 (by decide) (by decide)]
        have u24 : (I15 v2 4).toInt = (I9 v2 4).toInt := by rw [f_I15.2.2.1 v2 5 4 kv2 (by decide) (by decide)]
        refine ⟨fun c25 => ?_, fun c25 => ?_⟩
        · skip
          first | (have t26 : ¬ ((lg_cmp r14 (9223372036854775807 : Int64)).toInt = (0)) := (not_congr (i_eq rfl (show (0 : Int32).toInt = 0 from rfl))).mp c25) | (have t26 : ¬ ((lg_cmp r14 (9223372036854775807 : Int64)).toInt = (0 : Int32).toInt) := (not_congr (i_eq rfl rfl)).mp c25) | skip
          refine s_X11_costIn w_I15 r14    (fun r27  => ?_)
          have rr27 := i_rng r27
          unfold f_X11_breaks_b179
          refine s_X11_tellTwo w_I15 v0 (v4.toInt64) (r27.toInt64) k18   (fun  I28 L29 w_I28 f_I28  => ?_)
          have q_I28 : FR Ws_X11_breaks Z0 I0 Z17 I28 := q_I15.trans w0.1 w0.2.1 (f_I28.mono (by decide))
          have u30 : (I28 v2 3).toInt = (I15 v2 3).toInt := by rw [f_I28.2.2.1 v2 5 3 k19 (by decide) (by decide)]
          have u31 : (I28 v2 4).toInt = (I15 v2 4).toInt := by rw [f_I28.2.2.1 v2 5 4 k19 (by decide) (by decide)]
          exact hQ v3 Z17 I28 L29 w_I28 bd_Z17 q_I28 cp_Z17 
        · skip
          first | (have t32 : (lg_cmp r14 (9223372036854775807 : Int64)).toInt = (0) := (i_eq rfl (show (0 : Int32).toInt = 0 from rfl)).mp c25) | (have t32 : (lg_cmp r14 (9223372036854775807 : Int64)).toInt = (0 : Int32).toInt := (i_eq rfl rfl).mp c25) | skip
          unfold f_X11_breaks_b179
          refine s_X11_tellTwo w_I15 v0 (v4.toInt64) (-1 : Int64) k18   (fun  I33 L34 w_I33 f_I33  => ?_)
          have q_I33 : FR Ws_X11_breaks Z0 I0 Z17 I33 := q_I15.trans w0.1 w0.2.1 (f_I33.mono (by decide))
          have u35 : (I33 v2 3).toInt = (I15 v2 3).toInt := by rw [f_I33.2.2.1 v2 5 3 k19 (by decide) (by decide)]
          have u36 : (I33 v2 4).toInt = (I15 v2 4).toInt := by rw [f_I33.2.2.1 v2 5 4 k19 (by decide) (by decide)]
          exact hQ v3 Z17 I33 L34 w_I33 bd_Z17 q_I33 cp_Z17 
    · skip
      first | (have t37 : ¬ ((8) ≤ v5.toInt) := (not_congr (i_le (show (8 : Int32).toInt = 8 from rfl) rfl)).mp c1) | (have t37 : ¬ ((8 : Int32).toInt ≤ v5.toInt) := (not_congr (i_le rfl rfl)).mp c1) | skip
      refine s_X5_vowsAgainst w_I v2 v5 kv2   (fun r38  => ?_)
      have rr38 := i_rng r38
      refine ⟨fun c39 => ?_, fun c39 => ?_⟩
      · skip
        first | (have t40 : ¬ (r38.toInt = (0)) := (not_congr (i_eq rfl (show (0 : Int32).toInt = 0 from rfl))).mp c39) | (have t40 : ¬ (r38.toInt = (0 : Int32).toInt) := (not_congr (i_eq rfl rfl)).mp c39) | skip
        intro b41 eb41
        obtain ⟨x42, ex42, kb41⟩ := sh_o w_I.1 kv2 (j := 8) (k := 6) rfl
        cases eb41.symm.trans ex42
        have t43 : (-1 : Int32).toInt = -1 := rfl
        refine s_X6_lay w_I b41 (I v2 3) ((I v2 4) &&& (((1 : Int32) <<< (v5 &&& 31)) ^^^ (-1 : Int32))) (-1 : Int32) kb41   (fun  I44 L45 w_I44 f_I44  => ?_)
        have q_I44 : FR Ws_X11_breaks Z0 I0 Z I44 := q_I.trans w0.1 w0.2.1 (f_I44.mono (by decide))
        have u46 : (I44 v2 3).toInt = (I v2 3).toInt := by rw [f_I44.2.2.1 v2 5 3 kv2 (by decide) (by decide)]
        have u47 : (I44 v2 4).toInt = (I v2 4).toInt := by rw [f_I44.2.2.1 v2 5 4 kv2 (by decide) (by decide)]
        intro b48 eb48
        obtain rfl : b41 = b48 := Option.some.inj (eb41.symm.trans eb48)
        refine s_X6_cheapest w_I44 bd_Z b41 kb41   (fun r49 Z52 I50 L51 w_I50 bd_Z52 f_I50 c_Z52  => ?_)
        have q_I50 : FR Ws_X11_breaks Z0 I0 Z52 I50 := q_I44.trans w0.1 w0.2.1 (f_I50.mono (by decide))
        have cp_Z52 : CP Z0 Z52 := cp_Z.trans q_I44.1 c_Z52
        have x_Z52 := f_I50.1
        have k53 := (f_I50.1 _ _ kv0).1
        have k54 := (f_I50.1 _ _ kv2).1
        have k55 := (f_I50.1 _ _ kb41).1
        have k56 := (f_I50.1 _ _ kv2).1
        have e57 := (f_I50.2.1 v2 5 8 kv2 (by decide) (by decide)).trans eb41
        have u58 : (I50 v2 3).toInt = (I44 v2 3).toInt := by rw [f_I50.2.2.1 v2 5 3 kv2 (by decide) (by decide)]
        have u59 : (I50 v2 4).toInt = (I44 v2 4).toInt := by rw [f_I50.2.2.1 v2 5 4 kv2 (by decide) (by decide)]
        refine ⟨fun c60 => ?_, fun c60 => ?_⟩
        · skip
          first | (have t61 : (lg_cmp r49 (9223372036854775807 : Int64)).toInt = (0) := (i_eq rfl (show (0 : Int32).toInt = 0 from rfl)).mp c60) | (have t61 : (lg_cmp r49 (9223372036854775807 : Int64)).toInt = (0 : Int32).toInt := (i_eq rfl rfl).mp c60) | skip
          unfold f_X11_breaks_b117
          intro x62 ex62
          have rx62 := i_rng x62
          first | (have tx62 : x62.toInt = v5.toInt + (1) := by (rw [ex62]; exact (i_add rfl (show (1 : Int32).toInt = 1 from rfl) (by omega) (by omega)))) | skip
          exact ih v3 v4 x62 Z52 I50 L51 w_I50 bd_Z52 q_I50 cp_Z52 k54  (by omega)  (by omega)
        · skip
          first | (have t63 : ¬ ((lg_cmp r49 (9223372036854775807 : Int64)).toInt = (0)) := (not_congr (i_eq rfl (show (0 : Int32).toInt = 0 from rfl))).mp c60) | (have t63 : ¬ ((lg_cmp r49 (9223372036854775807 : Int64)).toInt = (0 : Int32).toInt) := (not_congr (i_eq rfl rfl)).mp c60) | skip
          refine ⟨fun c64 => ?_, fun c64 => ?_⟩
          · skip
            first | (have t65 : v3.toInt = (-2) := (i_eq rfl (show (-2 : Int32).toInt = -2 from rfl)).mp c64) | (have t65 : v3.toInt = (-2 : Int32).toInt := (i_eq rfl rfl).mp c64) | skip
            unfold f_X11_breaks_b107
            refine s_X11_costIn w_I50 r49    (fun r66  => ?_)
            have rr66 := i_rng r66
            unfold f_X11_breaks_b117
            intro x67 ex67
            have rx67 := i_rng x67
            first | (have tx67 : x67.toInt = v5.toInt + (1) := by (rw [ex67]; exact (i_add rfl (show (1 : Int32).toInt = 1 from rfl) (by omega) (by omega)))) | skip
            exact ih v5 r66 x67 Z52 I50 L51 w_I50 bd_Z52 q_I50 cp_Z52 k54  (by omega)  (by omega)
          · skip
            first | (have t68 : ¬ (v3.toInt = (-2)) := (not_congr (i_eq rfl (show (-2 : Int32).toInt = -2 from rfl))).mp c64) | (have t68 : ¬ (v3.toInt = (-2 : Int32).toInt) := (not_congr (i_eq rfl rfl)).mp c64) | skip
            refine s_X11_costIn w_I50 r49    (fun r69  => ?_)
            have rr69 := i_rng r69
            refine ⟨fun c70 => ?_, fun c70 => ?_⟩
            · skip
              first | (have t71 : v4.toInt ≤ r69.toInt := (i_le rfl rfl).mp c70) | (have t71 : v4.toInt ≤ r69.toInt := (i_le rfl rfl).mp c70) | skip
              unfold f_X11_breaks_b117
              intro x72 ex72
              have rx72 := i_rng x72
              first | (have tx72 : x72.toInt = v5.toInt + (1) := by (rw [ex72]; exact (i_add rfl (show (1 : Int32).toInt = 1 from rfl) (by omega) (by omega)))) | skip
              exact ih v3 v4 x72 Z52 I50 L51 w_I50 bd_Z52 q_I50 cp_Z52 k54  (by omega)  (by omega)
            · skip
              first | (have t73 : ¬ (v4.toInt ≤ r69.toInt) := (not_congr (i_le rfl rfl)).mp c70) | (have t73 : ¬ (v4.toInt ≤ r69.toInt) := (not_congr (i_le rfl rfl)).mp c70) | skip
              unfold f_X11_breaks_b107
              refine s_X11_costIn w_I50 r49    (fun r74  => ?_)
              have rr74 := i_rng r74
              unfold f_X11_breaks_b117
              intro x75 ex75
              have rx75 := i_rng x75
              first | (have tx75 : x75.toInt = v5.toInt + (1) := by (rw [ex75]; exact (i_add rfl (show (1 : Int32).toInt = 1 from rfl) (by omega) (by omega)))) | skip
              exact ih v5 r74 x75 Z52 I50 L51 w_I50 bd_Z52 q_I50 cp_Z52 k54  (by omega)  (by omega)
      · skip
        first | (have t76 : r38.toInt = (0) := (i_eq rfl (show (0 : Int32).toInt = 0 from rfl)).mp c39) | (have t76 : r38.toInt = (0 : Int32).toInt := (i_eq rfl rfl).mp c39) | skip
        unfold f_X11_breaks_b117
        intro x77 ex77
        have rx77 := i_rng x77
        first | (have tx77 : x77.toInt = v5.toInt + (1) := by (rw [ex77]; exact (i_add rfl (show (1 : Int32).toInt = 1 from rfl) (by omega) (by omega)))) | skip
        exact ih v3 v4 x77 Z I L w_I bd_Z q_I cp_Z kv2  (by omega)  (by omega)
set_option maxHeartbeats 4000000 in
set_option maxRecDepth 100000 in
theorem s_X11_breaks {B : Nat × Nat} {T : Nat} {Z : jZ} {I : jI} {L : jL} (w_I : WD Z I) (bd_Z : BUD B Z T) (v0 : Nat) (v1 : Int32) (kv0 : jk Z v0 11) {Q : Int32 → jZ → jI → jL → Prop} (hQ : ∀ (r : Int32) (Z' : jZ) (I' : jI) (L' : jL), WD Z' I' → BUD B Z' T → FR Ws_X11_breaks Z I Z' I' → CP Z Z' → Q r Z' I' L') : f_X11_breaks B v0 v1 Z I L Q := by
  unfold f_X11_breaks
  have q_I : FR Ws_X11_breaks Z I Z I := FR.rf
  have cp_Z : CP Z Z := CP.rf
  have rv1 := i_rng v1
  refine s_X11_find w_I v0 v1 kv0   (fun r78 p79 => ?_)
  refine ⟨fun c81 => ?_, fun b80 c81 => ?_⟩
  · skip
    have t82 : (-1 : Int32).toInt = -1 := rfl
    exact hQ (-1 : Int32) Z I L w_I bd_Z q_I cp_Z 
  · skip
    have kb80 : jk Z b80 5 := by first | exact p79 b80 c81 | exact (p79 b80 c81).1 | exact (p79.1 b80 c81).1
    intro b83 eb83
    obtain ⟨x84, ex84, kb83⟩ := sh_o w_I.1 kv0 (j := 2) (k := 8) rfl
    cases eb83.symm.trans ex84
    have t86 : 0 ≤ (I b83 9).toInt ∧ (I b83 9).toInt ≤ 24 := w_I.fld 8 9 kb83 (by decide)
    refine ⟨fun c87 => ?_, fun c87 => ?_⟩
    · skip
      first | (have t88 : ¬ ((I b83 9).toInt = (0)) := (not_congr (i_eq rfl (show (0 : Int32).toInt = 0 from rfl))).mp c87) | (have t88 : ¬ ((I b83 9).toInt = (0 : Int32).toInt) := (not_congr (i_eq rfl rfl)).mp c87) | skip
      have t89 : (-2 : Int32).toInt = -2 := rfl
      have t90 : (0 : Int32).toInt = 0 := rfl
      have t91 : (0 : Int32).toInt = 0 := rfl
      exact ⟨(8 - (0 : Int32).toInt).toNat + 1, l_X11_breaks_L31 w_I v0 v1 kv0 b80  hQ   _ (-2 : Int32) (0 : Int32) (0 : Int32) Z I L w_I bd_Z q_I cp_Z kb80  (by omega)  (by omega)⟩
    · skip
      first | (have t92 : (I b83 9).toInt = (0) := (i_eq rfl (show (0 : Int32).toInt = 0 from rfl)).mp c87) | (have t92 : (I b83 9).toInt = (0 : Int32).toInt := (i_eq rfl rfl).mp c87) | skip
      have t93 : (-1 : Int32).toInt = -1 := rfl
      exact hQ (-1 : Int32) Z I L w_I bd_Z q_I cp_Z 
set_option maxHeartbeats 4000000 in
set_option maxRecDepth 100000 in
theorem l_X11_sumUp_L7 {B : Nat × Nat} {T : Nat} {Z0 : jZ} {I0 : jI} {Q : jZ → jI → jL → Prop} (w0 : WD Z0 I0) (v0 : Nat) (v1 : Int32) (v2 : Nat) (kv0 : jk Z0 v0 11) (kv2 : jk Z0 v2 14) (o2_ c2_ j2_ : Nat) (ho2 : jk Z0 o2_ c2_) (hr2 : jr Z0 o2_ j2_ = some v2) (h72 : c2_ ≠ 7) (hs2 : jsr c2_ j2_ = false) (p0 : jlen Z0 v2 = 3) (p1 : ∀ i v, okA c2_ j2_ i v) (hQ : ∀  (Z' : jZ) (I' : jI) (L' : jL), WD Z' I' → BUD B Z' T → FR ((c2_, j2_) :: [(3, 2), (6, 4), (6, 5), (6, 6), (6, 7), (6, 14), (6, 15), (7, 1), (7, 2), (7, 3), (7, 4), (7, 5), (7, 8), (7, 9), (8, 8)]) Z0 I0 Z' I' → CP Z0 Z' → Q Z' I' L') : ∀ (n : Nat) (v3 : Int32) (Z : jZ) (I : jI) (L : jL), WD Z I → BUD B Z T → FR ((c2_, j2_) :: [(3, 2), (6, 4), (6, 5), (6, 6), (6, 7), (6, 14), (6, 15), (7, 1), (7, 2), (7, 3), (7, 4), (7, 5), (7, 8), (7, 9), (8, 8)]) Z0 I0 Z I → CP Z0 Z →   (0 ≤ v3.toInt ∧ v3.toInt ≤ 6) → 6 - v3.toInt < (n : Int) → f_X11_sumUp_L7 B  Q n v0 v1 v2 v3 Z I L := by
  intro n
  induction n with
  | zero =>
    intro v3 Z I L w_I bd_Z q_I cp_Z   li  me
    exfalso
    omega
  | succ n ih =>
    intro v3 Z I L w_I bd_Z q_I cp_Z   li  me
    unfold f_X11_sumUp_L7
    have rv3 := i_rng v3
    have rv1 := i_rng v1
    have kv0_0 := kv0
    have kv0 := (q_I.1 _ _ kv0).1
    have kv2_0 := kv2
    have kv2 := (q_I.1 _ _ kv2).1
    have lv2 : jlen Z v2 = 3 := (q_I.1 _ _ kv2_0).2.trans p0
    have ho2_0 := ho2
    have ho2 := (q_I.1 _ _ ho2).1
    have hr2_0 := hr2
    have hr2 : jr Z o2_ j2_ = some v2 := (q_I.2.1 o2_ c2_ j2_ ho2_0 (fun h => h72 h.1) (fun h => by rw [h.1, h.2] at hs2; cases hs2)).trans hr2
    have xq_I := q_I.1
    have t2 : 0 ≤ (I v0 4).toInt ∧ (I v0 4).toInt ≤ 6 := w_I.fld 11 4 kv0 (by decide)
    refine ⟨fun c3 => ?_, fun c3 => ?_⟩
    · skip
      first | (have t4 : (I v0 4).toInt ≤ v3.toInt := (i_le rfl rfl).mp c3) | (have t4 : (I v0 4).toInt ≤ v3.toInt := (i_le rfl rfl).mp c3) | skip
      exact hQ  Z I L w_I bd_Z q_I cp_Z 
    · skip
      first | (have t5 : ¬ ((I v0 4).toInt ≤ v3.toInt) := (not_congr (i_le rfl rfl)).mp c3) | (have t5 : ¬ ((I v0 4).toInt ≤ v3.toInt) := (not_congr (i_le rfl rfl)).mp c3) | skip
      intro b6 eb6
      obtain ⟨x7, ex7, kb6⟩ := sh_o w_I.1 kv0 (j := 2) (k := 8) rfl
      cases eb6.symm.trans ex7
      have t9 : 0 ≤ (I b6 9).toInt ∧ (I b6 9).toInt ≤ 24 := w_I.fld 8 9 kb6 (by decide)
      refine ⟨fun c10 => ?_, fun c10 => ?_⟩
      · skip
        first | (have t11 : (I b6 9).toInt ≤ (0) := (i_le rfl (show (0 : Int32).toInt = 0 from rfl)).mp c10) | (have t11 : (I b6 9).toInt ≤ (0 : Int32).toInt := (i_le rfl rfl).mp c10) | skip
        exact hQ  Z I L w_I bd_Z q_I cp_Z 
      · skip
        first | (have t12 : ¬ ((I b6 9).toInt ≤ (0)) := (not_congr (i_le rfl (show (0 : Int32).toInt = 0 from rfl))).mp c10) | (have t12 : ¬ ((I b6 9).toInt ≤ (0 : Int32).toInt) := (not_congr (i_le rfl rfl)).mp c10) | skip
        refine s_X11_find w_I v0 v3 kv0   (fun r13 p14 => ?_)
        refine ⟨fun c16 => ?_, fun b15 c16 => ?_⟩
        · skip
          unfold f_X11_sumUp_b107
          intro x17 ex17
          have rx17 := i_rng x17
          first | (have tx17 : x17.toInt = v3.toInt + (1) := by (rw [ex17]; exact (i_add rfl (show (1 : Int32).toInt = 1 from rfl) (by omega) (by omega)))) | skip
          exact ih x17 Z I L w_I bd_Z q_I cp_Z   (by omega)  (by omega)
        · skip
          have kb15 : jk Z b15 5 := by first | exact p14 b15 c16 | exact (p14 b15 c16).1 | exact (p14.1 b15 c16).1
          intro b18 eb18
          obtain ⟨x19, ex19, kb18⟩ := sh_o w_I.1 kb15 (j := 8) (k := 6) rfl
          cases eb18.symm.trans ex19
          refine s_X6_lay w_I b18 (I b15 3) (I b15 4) v1 kb18   (fun  I20 L21 w_I20 f_I20  => ?_)
          have q_I20 : FR ((c2_, j2_) :: [(3, 2), (6, 4), (6, 5), (6, 6), (6, 7), (6, 14), (6, 15), (7, 1), (7, 2), (7, 3), (7, 4), (7, 5), (7, 8), (7, 9), (8, 8)]) Z0 I0 Z I20 := q_I.trans w0.1 w0.2.1 (f_I20.mono (by first | decide | (unfold Ws_X6_lay; simp) | simp))
          have u22 : (I20 v0 4).toInt = (I v0 4).toInt := by rw [f_I20.2.2.1 v0 11 4 kv0 (by decide) (by decide)]
          have u23 : (I20 b6 9).toInt = (I b6 9).toInt := by rw [f_I20.2.2.1 b6 8 9 kb6 (by decide) (by decide)]
          have u24 : (I20 b15 3).toInt = (I b15 3).toInt := by rw [f_I20.2.2.1 b15 5 3 kb15 (by decide) (by decide)]
          have u25 : (I20 b15 4).toInt = (I b15 4).toInt := by rw [f_I20.2.2.1 b15 5 4 kb15 (by decide) (by decide)]
          intro b26 eb26
          obtain rfl : b18 = b26 := Option.some.inj (eb18.symm.trans eb26)
          refine s_X6_cheapest w_I20 bd_Z b18 kb18   (fun r27 Z30 I28 L29 w_I28 bd_Z30 f_I28 c_Z30  => ?_)
          have q_I28 : FR ((c2_, j2_) :: [(3, 2), (6, 4), (6, 5), (6, 6), (6, 7), (6, 14), (6, 15), (7, 1), (7, 2), (7, 3), (7, 4), (7, 5), (7, 8), (7, 9), (8, 8)]) Z0 I0 Z30 I28 := q_I20.trans w0.1 w0.2.1 (f_I28.mono (by first | decide | (unfold Ws_X6_cheapest; simp) | simp))
          have cp_Z30 : CP Z0 Z30 := cp_Z.trans q_I20.1 c_Z30
          have x_Z30 := f_I28.1
          have k31 := (f_I28.1 _ _ kv0).1
          have k32 := (f_I28.1 _ _ kv2).1
          have l33 := (f_I28.1 _ _ kv2).2
          have k34 := (f_I28.1 _ _ ho2).1
          have e35 := (f_I28.2.1 o2_ c2_ j2_ ho2 (fun h => h72 h.1) (fun h => by rw [h.1, h.2] at hs2; cases hs2)).trans hr2
          have k36 := (f_I28.1 _ _ kb15).1
          have k37 := (f_I28.1 _ _ kb6).1
          have k38 := (f_I28.1 _ _ kv0).1
          have e39 := (f_I28.2.1 v0 11 2 kv0 (by decide) (by decide)).trans eb6
          have k40 := (f_I28.1 _ _ kb18).1
          have k41 := (f_I28.1 _ _ kb15).1
          have e42 := (f_I28.2.1 b15 5 8 kb15 (by decide) (by decide)).trans eb18
          have u43 : (I28 v0 4).toInt = (I20 v0 4).toInt := by rw [f_I28.2.2.1 v0 11 4 kv0 (by decide) (by decide)]
          have u44 : (I28 b6 9).toInt = (I20 b6 9).toInt := by rw [f_I28.2.2.1 b6 8 9 kb6 (by decide) (by decide)]
          have u45 : (I28 b15 3).toInt = (I20 b15 3).toInt := by rw [f_I28.2.2.1 b15 5 3 kb15 (by decide) (by decide)]
          have u46 : (I28 b15 4).toInt = (I20 b15 4).toInt := by rw [f_I28.2.2.1 b15 5 4 kb15 (by decide) (by decide)]
          refine ⟨fun c47 => ?_, fun c47 => ?_⟩
          · skip
            first | (have t48 : (lg_cmp r27 (9223372036854775807 : Int64)).toInt = (0) := (i_eq rfl (show (0 : Int32).toInt = 0 from rfl)).mp c47) | (have t48 : (lg_cmp r27 (9223372036854775807 : Int64)).toInt = (0 : Int32).toInt := (i_eq rfl rfl).mp c47) | skip
            unfold f_X11_sumUp_b107
            intro x49 ex49
            have rx49 := i_rng x49
            first | (have tx49 : x49.toInt = v3.toInt + (1) := by (rw [ex49]; exact (i_add rfl (show (1 : Int32).toInt = 1 from rfl) (by omega) (by omega)))) | skip
            exact ih x49 Z30 I28 L29 w_I28 bd_Z30 q_I28 cp_Z30   (by omega)  (by omega)
          · skip
            first | (have t50 : ¬ ((lg_cmp r27 (9223372036854775807 : Int64)).toInt = (0)) := (not_congr (i_eq rfl (show (0 : Int32).toInt = 0 from rfl))).mp c47) | (have t50 : ¬ ((lg_cmp r27 (9223372036854775807 : Int64)).toInt = (0 : Int32).toInt) := (not_congr (i_eq rfl rfl)).mp c47) | skip
            have o51 : vp_in (0 : Int32) (jlen Z30 v2) := vi_of (show (0 : Int32).toInt = 0 from rfl) (by omega) (by omega)
            refine ⟨o51, ?_⟩
            have o52 : vp_in (0 : Int32) (jlen Z30 v2) := vi_of (show (0 : Int32).toInt = 0 from rfl) (by omega) (by omega)
            refine ⟨o52, ?_⟩
            intro I53 eI53
            try (have t54 : ((I28 v2 (0 : Int32).toNatClampNeg) + (1 : Int32)).toInt = ((I28 v2 (0 : Int32).toNatClampNeg).toInt + (1)) := (i_add rfl (show (1 : Int32).toInt = 1 from rfl) (by omega) (by omega)))
            have w_I53 : WD Z30 I53 := by rw [eI53]; exact WD_putA w_I28 c2_ j2_ k34 e35 k32 rfl hs2 h72 (p1 _ _)
            have f_I53 : FR [(c2_, j2_)] Z30 I28 Z30 I53 := by rw [eI53]; exact FR_upA w_I28.2.1 k34 e35 k32 rfl hs2 List.mem_cons_self
            have q_I53 : FR ((c2_, j2_) :: [(3, 2), (6, 4), (6, 5), (6, 6), (6, 7), (6, 14), (6, 15), (7, 1), (7, 2), (7, 3), (7, 4), (7, 5), (7, 8), (7, 9), (8, 8)]) Z0 I0 Z30 I53 := q_I28.trans w0.1 w0.2.1 (f_I53.mono (by simp))
            have o55 : vp_in (1 : Int32) (jlen Z30 v2) := vi_of (show (1 : Int32).toInt = 1 from rfl) (by omega) (by omega)
            refine ⟨o55, ?_⟩
            refine s_X11_costIn w_I53 r27    (fun r56  => ?_)
            have rr56 := i_rng r56
            have o57 : vp_in (1 : Int32) (jlen Z30 v2) := vi_of (show (1 : Int32).toInt = 1 from rfl) (by omega) (by omega)
            refine ⟨o57, ?_⟩
            intro I58 eI58
            try (have t59 : ((I53 v2 (1 : Int32).toNatClampNeg) + r56).toInt = ((I53 v2 (1 : Int32).toNatClampNeg).toInt + r56.toInt) := (i_add rfl rfl (by omega) (by omega)))
            have w_I58 : WD Z30 I58 := by rw [eI58]; exact WD_putA w_I53 c2_ j2_ k34 e35 k32 rfl hs2 h72 (p1 _ _)
            have f_I58 : FR [(c2_, j2_)] Z30 I53 Z30 I58 := by rw [eI58]; exact FR_upA w_I53.2.1 k34 e35 k32 rfl hs2 List.mem_cons_self
            have q_I58 : FR ((c2_, j2_) :: [(3, 2), (6, 4), (6, 5), (6, 6), (6, 7), (6, 14), (6, 15), (7, 1), (7, 2), (7, 3), (7, 4), (7, 5), (7, 8), (7, 9), (8, 8)]) Z0 I0 Z30 I58 := q_I53.trans w0.1 w0.2.1 (f_I58.mono (by simp))
            have o60 : vp_in (2 : Int32) (jlen Z30 v2) := vi_of (show (2 : Int32).toInt = 2 from rfl) (by omega) (by omega)
            refine ⟨o60, ?_⟩
            refine s_X11_effortIn w_I58 r27    (fun r61 p62 => ?_)
            have rr61 := i_rng r61
            have o63 : vp_in (2 : Int32) (jlen Z30 v2) := vi_of (show (2 : Int32).toInt = 2 from rfl) (by omega) (by omega)
            refine ⟨o63, ?_⟩
            intro I64 eI64
            try (have t65 : ((I58 v2 (2 : Int32).toNatClampNeg) + r61).toInt = ((I58 v2 (2 : Int32).toNatClampNeg).toInt + r61.toInt) := (i_add rfl rfl (by omega) (by omega)))
            have w_I64 : WD Z30 I64 := by rw [eI64]; exact WD_putA w_I58 c2_ j2_ k34 e35 k32 rfl hs2 h72 (p1 _ _)
            have f_I64 : FR [(c2_, j2_)] Z30 I58 Z30 I64 := by rw [eI64]; exact FR_upA w_I58.2.1 k34 e35 k32 rfl hs2 List.mem_cons_self
            have q_I64 : FR ((c2_, j2_) :: [(3, 2), (6, 4), (6, 5), (6, 6), (6, 7), (6, 14), (6, 15), (7, 1), (7, 2), (7, 3), (7, 4), (7, 5), (7, 8), (7, 9), (8, 8)]) Z0 I0 Z30 I64 := q_I58.trans w0.1 w0.2.1 (f_I64.mono (by simp))
            unfold f_X11_sumUp_b107
            intro x66 ex66
            have rx66 := i_rng x66
            first | (have tx66 : x66.toInt = v3.toInt + (1) := by (rw [ex66]; exact (i_add rfl (show (1 : Int32).toInt = 1 from rfl) (by omega) (by omega)))) | skip
            exact ih x66 Z30 I64 L29 w_I64 bd_Z30 q_I64 cp_Z30   (by omega)  (by omega)
set_option maxHeartbeats 4000000 in
set_option maxRecDepth 100000 in
theorem s_X11_sumUp {B : Nat × Nat} {T : Nat} {Z : jZ} {I : jI} {L : jL} (w_I : WD Z I) (bd_Z : BUD B Z T) (v0 : Nat) (v1 : Int32) (v2 : Nat) (kv0 : jk Z v0 11) (kv2 : jk Z v2 14) (o2_ c2_ j2_ : Nat) (ho2 : jk Z o2_ c2_) (hr2 : jr Z o2_ j2_ = some v2) (h72 : c2_ ≠ 7) (hs2 : jsr c2_ j2_ = false) (p0 : jlen Z v2 = 3) (p1 : ∀ i v, okA c2_ j2_ i v) {Q : jZ → jI → jL → Prop} (hQ : ∀  (Z' : jZ) (I' : jI) (L' : jL), WD Z' I' → BUD B Z' T → FR ((c2_, j2_) :: [(3, 2), (6, 4), (6, 5), (6, 6), (6, 7), (6, 14), (6, 15), (7, 1), (7, 2), (7, 3), (7, 4), (7, 5), (7, 8), (7, 9), (8, 8)]) Z I Z' I' → CP Z Z' → Q Z' I' L') : f_X11_sumUp B v0 v1 v2 Z I L Q := by
  unfold f_X11_sumUp
  have q_I : FR ((c2_, j2_) :: [(3, 2), (6, 4), (6, 5), (6, 6), (6, 7), (6, 14), (6, 15), (7, 1), (7, 2), (7, 3), (7, 4), (7, 5), (7, 8), (7, 9), (8, 8)]) Z I Z I := FR.rf
  have cp_Z : CP Z Z := CP.rf
  have rv1 := i_rng v1
  have t67 : (0 : Int32).toInt = 0 := rfl
  refine s_J7_fill_53178 w_I v2 (0 : Int32) kv2 o2_ c2_ j2_ ho2 hr2 h72 hs2 (by omega) (by intro i; first | trivial | exact p1 i _ | exact p2 i _ | (constructor <;> decide)) (fun  I68 L69 w_I68 f_I68  => ?_)
  have q_I68 : FR ((c2_, j2_) :: [(3, 2), (6, 4), (6, 5), (6, 6), (6, 7), (6, 14), (6, 15), (7, 1), (7, 2), (7, 3), (7, 4), (7, 5), (7, 8), (7, 9), (8, 8)]) Z I Z I68 := q_I.trans w_I.1 w_I.2.1 (f_I68.mono (by first | decide | (intro p hp; simp at hp ⊢; omega) | simp))
  have t70 : (0 : Int32).toInt = 0 := rfl
  exact ⟨(6 - (0 : Int32).toInt).toNat + 1, l_X11_sumUp_L7 w_I v0 v1 v2 kv0 kv2 o2_ c2_ j2_ ho2 hr2 h72 hs2 p0 p1   hQ   _ (0 : Int32) Z I68 L69 w_I68 bd_Z q_I68 cp_Z   (by omega)  (by omega)⟩
def Ws_X11_all : List (Nat × Nat) := [(3, 2), (6, 4), (6, 5), (6, 6), (6, 7), (6, 14), (6, 15), (7, 1), (7, 2), (7, 3), (7, 4), (7, 5), (7, 8), (7, 9), (8, 8), (11, 11), (11, 16)]
set_option maxHeartbeats 4000000 in
set_option maxRecDepth 100000 in
theorem s_X11_all {B : Nat × Nat} {T : Nat} {Z : jZ} {I : jI} {L : jL} (w_I : WD Z I) (bd_Z : BUD B Z T) (v0 : Nat) (kv0 : jk Z v0 11) {Q : Int32 → jZ → jI → jL → Prop} (hQ : ∀ (r : Int32) (Z' : jZ) (I' : jI) (L' : jL), WD Z' I' → BUD B Z' T → FR Ws_X11_all Z I Z' I' → CP Z Z' → Q r Z' I' L') : f_X11_all B v0 Z I L Q := by
  unfold f_X11_all
  have q_I : FR Ws_X11_all Z I Z I := FR.rf
  have cp_Z : CP Z Z := CP.rf
  intro b1 eb1
  obtain ⟨x2, ex2, kb1, lb1⟩ := sh_f w_I.1 kv0 (j := 11) (k := 14) (m := 3) rfl
  cases eb1.symm.trans ex2
  have t3 : (-1 : Int32).toInt = -1 := rfl
  refine s_X11_sumUp w_I bd_Z v0 (-1 : Int32) b1 kv0 kb1 v0 11 11 kv0 eb1 (by decide) rfl (by omega) (by intro i v; trivial) (fun  Z6 I4 L5 w_I4 bd_Z6 f_I4 c_Z6  => ?_)
  have q_I4 : FR Ws_X11_all Z I Z6 I4 := q_I.trans w_I.1 w_I.2.1 (f_I4.mono (by first | decide | (intro p hp; simp at hp ⊢; omega) | simp))
  have cp_Z6 : CP Z Z6 := cp_Z.trans q_I.1 c_Z6
  have x_Z6 := f_I4.1
  have k7 := (f_I4.1 _ _ kv0).1
  have k8 := (f_I4.1 _ _ kb1).1
  have l9 := (f_I4.1 _ _ kb1).2.trans lb1
  have k10 := (f_I4.1 _ _ kv0).1
  have e11 := (f_I4.2.1 v0 11 11 kv0 (by decide) (by decide)).trans eb1
  intro b12 eb12
  obtain rfl : b1 = b12 := Option.some.inj (e11.symm.trans eb12)
  intro b13 eb13
  obtain rfl : b1 = b13 := Option.some.inj (e11.symm.trans eb13)
  refine s_X11_tellTwo w_I4 v0 ((I4 b1 (0 : Int32).toNatClampNeg).toInt64) ((I4 b1 (2 : Int32).toNatClampNeg).toInt64) k7   (fun  I14 L15 w_I14 f_I14  => ?_)
  have q_I14 : FR Ws_X11_all Z I Z6 I14 := q_I4.trans w_I.1 w_I.2.1 (f_I14.mono (by decide))
  intro b16 eb16
  obtain rfl : b1 = b16 := Option.some.inj (e11.symm.trans eb16)
  exact hQ (I14 b1 (1 : Int32).toNatClampNeg) Z6 I14 L15 w_I14 bd_Z6 q_I14 cp_Z6 
def Ws_X11_whole : List (Nat × Nat) := [(3, 2), (6, 4), (6, 5), (6, 6), (6, 7), (6, 14), (6, 15), (7, 1), (7, 2), (7, 3), (7, 4), (7, 5), (7, 8), (7, 9), (8, 1), (8, 8), (11, 11), (11, 12), (11, 16)]
set_option maxHeartbeats 4000000 in
set_option maxRecDepth 100000 in
theorem s_X11_whole {B : Nat × Nat} {T : Nat} {Z : jZ} {I : jI} {L : jL} (w_I : WD Z I) (bd_Z : BUD B Z T) (v0 : Nat) (v1 : Int32) (kv0 : jk Z v0 11) {Q : Int32 → jZ → jI → jL → Prop} (hQ : ∀ (r : Int32) (Z' : jZ) (I' : jI) (L' : jL), WD Z' I' → BUD B Z' T → FR Ws_X11_whole Z I Z' I' → CP Z Z' → Q r Z' I' L') : f_X11_whole B v0 v1 Z I L Q := by
  unfold f_X11_whole
  have q_I : FR Ws_X11_whole Z I Z I := FR.rf
  have cp_Z : CP Z Z := CP.rf
  have rv1 := i_rng v1
  intro b1 eb1
  obtain ⟨x2, ex2, kb1⟩ := sh_o w_I.1 kv0 (j := 2) (k := 8) rfl
  cases eb1.symm.trans ex2
  refine s_X8_has w_I b1 v1 kb1   (fun r3 p4 => ?_)
  have rr3 := i_rng r3
  refine ⟨fun c5 => ?_, fun c5 => ?_⟩
  · skip
    first | (have t6 : ¬ (r3.toInt = (0)) := (not_congr (i_eq rfl (show (0 : Int32).toInt = 0 from rfl))).mp c5) | (have t6 : ¬ (r3.toInt = (0 : Int32).toInt) := (not_congr (i_eq rfl rfl)).mp c5) | skip
    intro b7 eb7
    obtain ⟨x8, ex8, kb7, lb7⟩ := sh_f w_I.1 kv0 (j := 11) (k := 14) (m := 3) rfl
    cases eb7.symm.trans ex8
    have t9 : (-1 : Int32).toInt = -1 := rfl
    refine s_X11_sumUp w_I bd_Z v0 (-1 : Int32) b7 kv0 kb7 v0 11 11 kv0 eb7 (by decide) rfl (by omega) (by intro i v; trivial) (fun  Z12 I10 L11 w_I10 bd_Z12 f_I10 c_Z12  => ?_)
    have q_I10 : FR Ws_X11_whole Z I Z12 I10 := q_I.trans w_I.1 w_I.2.1 (f_I10.mono (by first | decide | (intro p hp; simp at hp ⊢; omega) | simp))
    have cp_Z12 : CP Z Z12 := cp_Z.trans q_I.1 c_Z12
    have x_Z12 := f_I10.1
    have k13 := (f_I10.1 _ _ kv0).1
    have k14 := (f_I10.1 _ _ kb1).1
    have k15 := (f_I10.1 _ _ kv0).1
    have e16 := (f_I10.2.1 v0 11 2 kv0 (by decide) (by decide)).trans eb1
    have k17 := (f_I10.1 _ _ kb7).1
    have l18 := (f_I10.1 _ _ kb7).2.trans lb7
    have k19 := (f_I10.1 _ _ kv0).1
    have e20 := (f_I10.2.1 v0 11 11 kv0 (by decide) (by decide)).trans eb7
    intro b21 eb21
    obtain rfl : b1 = b21 := Option.some.inj (e16.symm.trans eb21)
    intro b22 eb22
    obtain ⟨x23, ex23, kb22, lb22⟩ := sh_f w_I10.1 k14 (j := 1) (k := 14) (m := 24) rfl
    cases eb22.symm.trans ex23
    have o24 : vp_in v1 24 := vi_of rfl (by omega) (by omega)
    refine ⟨o24, ?_⟩
    intro x25 ex25
    have rx25 := i_rng x25
    first | (have tx25 : x25.toInt = (I10 b22 v1.toNatClampNeg).toInt := by (rw [ex25]; exact rfl)) | (have tx25 : x25.toInt = (I10 b22 v1.toNatClampNeg).toInt := by rw [ex25])
    intro b26 eb26
    obtain rfl : b1 = b26 := Option.some.inj (e16.symm.trans eb26)
    intro b27 eb27
    obtain rfl : b22 = b27 := Option.some.inj (eb22.symm.trans eb27)
    have o28 : vp_in v1 24 := vi_of rfl (by omega) (by omega)
    refine ⟨o28, ?_⟩
    intro I29 eI29
    have t30 : (9 : Int32).toInt = 9 := rfl
    have w_I29 : WD Z12 I29 := by rw [eI29]; exact WD_putA w_I10 8 1 k14 eb22 kb22 rfl rfl (by decide) trivial
    have f_I29 : FR [(8, 1)] Z12 I10 Z12 I29 := by rw [eI29]; exact FR_upA w_I10.2.1 k14 eb22 kb22 rfl rfl List.mem_cons_self
    have q_I29 : FR Ws_X11_whole Z I Z12 I29 := q_I10.trans w_I.1 w_I.2.1 (f_I29.mono (by decide))
    intro b31 eb31
    obtain ⟨x32, ex32, kb31, lb31⟩ := sh_f w_I29.1 k13 (j := 12) (k := 14) (m := 3) rfl
    cases eb31.symm.trans ex32
    have t33 : (-1 : Int32).toInt = -1 := rfl
    refine s_X11_sumUp w_I29 bd_Z12 v0 (-1 : Int32) b31 k13 kb31 v0 11 12 k13 eb31 (by decide) rfl (by omega) (by intro i v; trivial) (fun  Z36 I34 L35 w_I34 bd_Z36 f_I34 c_Z36  => ?_)
    have q_I34 : FR Ws_X11_whole Z I Z36 I34 := q_I29.trans w_I.1 w_I.2.1 (f_I34.mono (by first | decide | (intro p hp; simp at hp ⊢; omega) | simp))
    have cp_Z36 : CP Z Z36 := cp_Z12.trans q_I29.1 c_Z36
    have x_Z36 := f_I34.1
    have k37 := (f_I34.1 _ _ k13).1
    have k38 := (f_I34.1 _ _ k14).1
    have k39 := (f_I34.1 _ _ k15).1
    have e40 := (f_I34.2.1 v0 11 2 k15 (by decide) (by decide)).trans e16
    have k41 := (f_I34.1 _ _ k17).1
    have l42 := (f_I34.1 _ _ k17).2.trans l18
    have k43 := (f_I34.1 _ _ k19).1
    have e44 := (f_I34.2.1 v0 11 11 k19 (by decide) (by decide)).trans e20
    have k45 := (f_I34.1 _ _ kb22).1
    have l46 := (f_I34.1 _ _ kb22).2.trans lb22
    have k47 := (f_I34.1 _ _ k14).1
    have e48 := (f_I34.2.1 b1 8 1 k14 (by decide) (by decide)).trans eb22
    have k49 := (f_I34.1 _ _ kb31).1
    have l50 := (f_I34.1 _ _ kb31).2.trans lb31
    have k51 := (f_I34.1 _ _ k13).1
    have e52 := (f_I34.2.1 v0 11 12 k13 (by decide) (by decide)).trans eb31
    intro b53 eb53
    obtain rfl : b1 = b53 := Option.some.inj (e40.symm.trans eb53)
    intro b54 eb54
    obtain rfl : b22 = b54 := Option.some.inj (e48.symm.trans eb54)
    have o55 : vp_in v1 24 := vi_of rfl (by omega) (by omega)
    refine ⟨o55, ?_⟩
    intro I56 eI56
    have w_I56 : WD Z36 I56 := by rw [eI56]; exact WD_putA w_I34 8 1 k47 e48 k45 rfl rfl (by decide) trivial
    have f_I56 : FR [(8, 1)] Z36 I34 Z36 I56 := by rw [eI56]; exact FR_upA w_I34.2.1 k47 e48 k45 rfl rfl List.mem_cons_self
    have q_I56 : FR Ws_X11_whole Z I Z36 I56 := q_I34.trans w_I.1 w_I.2.1 (f_I56.mono (by decide))
    refine s_X11_tellDifferences w_I56 v0 k37   (fun r57 I58 L59 w_I58 f_I58  => ?_)
    have q_I58 : FR Ws_X11_whole Z I Z36 I58 := q_I56.trans w_I.1 w_I.2.1 (f_I58.mono (by decide))
    have rr57 := i_rng r57
    exact hQ r57 Z36 I58 L59 w_I58 bd_Z36 q_I58 cp_Z36 
  · skip
    first | (have t60 : r3.toInt = (0) := (i_eq rfl (show (0 : Int32).toInt = 0 from rfl)).mp c5) | (have t60 : r3.toInt = (0 : Int32).toInt := (i_eq rfl rfl).mp c5) | skip
    have t61 : (-1 : Int32).toInt = -1 := rfl
    exact hQ (-1 : Int32) Z I L w_I bd_Z q_I cp_Z 
def Ws_X11_shut : List (Nat × Nat) := [(3, 2), (6, 4), (6, 5), (6, 6), (6, 7), (6, 14), (6, 15), (7, 1), (7, 2), (7, 3), (7, 4), (7, 5), (7, 8), (7, 9), (8, 8), (11, 11), (11, 12), (11, 16)]
set_option maxHeartbeats 4000000 in
set_option maxRecDepth 100000 in
theorem s_X11_shut {B : Nat × Nat} {T : Nat} {Z : jZ} {I : jI} {L : jL} (w_I : WD Z I) (bd_Z : BUD B Z T) (v0 : Nat) (v1 : Int32) (kv0 : jk Z v0 11) {Q : Int32 → jZ → jI → jL → Prop} (hQ : ∀ (r : Int32) (Z' : jZ) (I' : jI) (L' : jL), WD Z' I' → BUD B Z' T → FR Ws_X11_shut Z I Z' I' → CP Z Z' → Q r Z' I' L') : f_X11_shut B v0 v1 Z I L Q := by
  unfold f_X11_shut
  have q_I : FR Ws_X11_shut Z I Z I := FR.rf
  have cp_Z : CP Z Z := CP.rf
  have rv1 := i_rng v1
  intro b1 eb1
  obtain ⟨x2, ex2, kb1⟩ := sh_o w_I.1 kv0 (j := 2) (k := 8) rfl
  cases eb1.symm.trans ex2
  refine s_X8_has w_I b1 v1 kb1   (fun r3 p4 => ?_)
  have rr3 := i_rng r3
  refine ⟨fun c5 => ?_, fun c5 => ?_⟩
  · skip
    first | (have t6 : ¬ (r3.toInt = (0)) := (not_congr (i_eq rfl (show (0 : Int32).toInt = 0 from rfl))).mp c5) | (have t6 : ¬ (r3.toInt = (0 : Int32).toInt) := (not_congr (i_eq rfl rfl)).mp c5) | skip
    intro b7 eb7
    obtain ⟨x8, ex8, kb7, lb7⟩ := sh_f w_I.1 kv0 (j := 11) (k := 14) (m := 3) rfl
    cases eb7.symm.trans ex8
    have t9 : (-1 : Int32).toInt = -1 := rfl
    refine s_X11_sumUp w_I bd_Z v0 (-1 : Int32) b7 kv0 kb7 v0 11 11 kv0 eb7 (by decide) rfl (by omega) (by intro i v; trivial) (fun  Z12 I10 L11 w_I10 bd_Z12 f_I10 c_Z12  => ?_)
    have q_I10 : FR Ws_X11_shut Z I Z12 I10 := q_I.trans w_I.1 w_I.2.1 (f_I10.mono (by first | decide | (intro p hp; simp at hp ⊢; omega) | simp))
    have cp_Z12 : CP Z Z12 := cp_Z.trans q_I.1 c_Z12
    have x_Z12 := f_I10.1
    have k13 := (f_I10.1 _ _ kv0).1
    have k14 := (f_I10.1 _ _ kb1).1
    have k15 := (f_I10.1 _ _ kv0).1
    have e16 := (f_I10.2.1 v0 11 2 kv0 (by decide) (by decide)).trans eb1
    have k17 := (f_I10.1 _ _ kb7).1
    have l18 := (f_I10.1 _ _ kb7).2.trans lb7
    have k19 := (f_I10.1 _ _ kv0).1
    have e20 := (f_I10.2.1 v0 11 11 kv0 (by decide) (by decide)).trans eb7
    intro b21 eb21
    obtain ⟨x22, ex22, kb21, lb21⟩ := sh_f w_I10.1 k13 (j := 12) (k := 14) (m := 3) rfl
    cases eb21.symm.trans ex22
    refine s_X11_sumUp w_I10 bd_Z12 v0 v1 b21 k13 kb21 v0 11 12 k13 eb21 (by decide) rfl (by omega) (by intro i v; trivial) (fun  Z25 I23 L24 w_I23 bd_Z25 f_I23 c_Z25  => ?_)
    have q_I23 : FR Ws_X11_shut Z I Z25 I23 := q_I10.trans w_I.1 w_I.2.1 (f_I23.mono (by first | decide | (intro p hp; simp at hp ⊢; omega) | simp))
    have cp_Z25 : CP Z Z25 := cp_Z12.trans q_I10.1 c_Z25
    have x_Z25 := f_I23.1
    have k26 := (f_I23.1 _ _ k13).1
    have k27 := (f_I23.1 _ _ k14).1
    have k28 := (f_I23.1 _ _ k15).1
    have e29 := (f_I23.2.1 v0 11 2 k15 (by decide) (by decide)).trans e16
    have k30 := (f_I23.1 _ _ k17).1
    have l31 := (f_I23.1 _ _ k17).2.trans l18
    have k32 := (f_I23.1 _ _ k19).1
    have e33 := (f_I23.2.1 v0 11 11 k19 (by decide) (by decide)).trans e20
    have k34 := (f_I23.1 _ _ kb21).1
    have l35 := (f_I23.1 _ _ kb21).2.trans lb21
    have k36 := (f_I23.1 _ _ k13).1
    have e37 := (f_I23.2.1 v0 11 12 k13 (by decide) (by decide)).trans eb21
    refine s_X11_tellDifferences w_I23 v0 k26   (fun r38 I39 L40 w_I39 f_I39  => ?_)
    have q_I39 : FR Ws_X11_shut Z I Z25 I39 := q_I23.trans w_I.1 w_I.2.1 (f_I39.mono (by decide))
    have rr38 := i_rng r38
    exact hQ r38 Z25 I39 L40 w_I39 bd_Z25 q_I39 cp_Z25 
  · skip
    first | (have t41 : r3.toInt = (0) := (i_eq rfl (show (0 : Int32).toInt = 0 from rfl)).mp c5) | (have t41 : r3.toInt = (0 : Int32).toInt := (i_eq rfl rfl).mp c5) | skip
    have t42 : (-1 : Int32).toInt = -1 := rfl
    exact hQ (-1 : Int32) Z I L w_I bd_Z q_I cp_Z 
def Ws_X11_weighAlone : List (Nat × Nat) := [(3, 2), (6, 4), (6, 5), (6, 6), (6, 7), (6, 8), (6, 12), (6, 13), (6, 14), (6, 15), (7, 1), (7, 2), (7, 3), (7, 4), (7, 5), (7, 8), (7, 9), (8, 8), (11, 13), (11, 14)]
set_option maxHeartbeats 4000000 in
set_option maxRecDepth 100000 in
theorem l_X11_weighAlone_L2 {B : Nat × Nat} {T : Nat} {Z0 : jZ} {I0 : jI} {Q : jZ → jI → jL → Prop} (w0 : WD Z0 I0) (v0 : Nat) (v1 : Int32) (kv0 : jk Z0 v0 11) (p0 : 0 ≤ v1.toInt ∧ v1.toInt ≤ 23) (hQ : ∀  (Z' : jZ) (I' : jI) (L' : jL), WD Z' I' → BUD B Z' T → FR Ws_X11_weighAlone Z0 I0 Z' I' → CP Z0 Z' → Q Z' I' L') : ∀ (n : Nat) (v2 : Int32) (Z : jZ) (I : jI) (L : jL), WD Z I → BUD B Z T → FR Ws_X11_weighAlone Z0 I0 Z I → CP Z0 Z →   (0 ≤ v2.toInt ∧ v2.toInt ≤ 6) → 6 - v2.toInt < (n : Int) → f_X11_weighAlone_L2 B  Q n v0 v1 v2 Z I L := by
  intro n
  induction n with
  | zero =>
    intro v2 Z I L w_I bd_Z q_I cp_Z   li  me
    exfalso
    omega
  | succ n ih =>
    intro v2 Z I L w_I bd_Z q_I cp_Z   li  me
    unfold f_X11_weighAlone_L2
    have rv2 := i_rng v2
    have rv1 := i_rng v1
    have kv0_0 := kv0
    have kv0 := (q_I.1 _ _ kv0).1
    have xq_I := q_I.1
    have t2 : 0 ≤ (I v0 4).toInt ∧ (I v0 4).toInt ≤ 6 := w_I.fld 11 4 kv0 (by decide)
    refine ⟨fun c3 => ?_, fun c3 => ?_⟩
    · skip
      first | (have t4 : (I v0 4).toInt ≤ v2.toInt := (i_le rfl rfl).mp c3) | (have t4 : (I v0 4).toInt ≤ v2.toInt := (i_le rfl rfl).mp c3) | skip
      refine s_X11_weigh w_I v0 v1 kv0  (by omega) (fun  I5 L6 w_I5 f_I5  => ?_)
      have q_I5 : FR Ws_X11_weighAlone Z0 I0 Z I5 := q_I.trans w0.1 w0.2.1 (f_I5.mono (by decide))
      have u7 : (I5 v0 4).toInt = (I v0 4).toInt := by rw [f_I5.2.2.1 v0 11 4 kv0 (by decide) (by decide)]
      exact hQ  Z I5 L6 w_I5 bd_Z q_I5 cp_Z 
    · skip
      first | (have t8 : ¬ ((I v0 4).toInt ≤ v2.toInt) := (not_congr (i_le rfl rfl)).mp c3) | (have t8 : ¬ ((I v0 4).toInt ≤ v2.toInt) := (not_congr (i_le rfl rfl)).mp c3) | skip
      refine s_X11_find w_I v0 v2 kv0   (fun r9 p10 => ?_)
      refine ⟨fun c12 => ?_, fun b11 c12 => ?_⟩
      · skip
        unfold f_X11_weighAlone_b51
        intro x13 ex13
        have rx13 := i_rng x13
        first | (have tx13 : x13.toInt = v2.toInt + (1) := by (rw [ex13]; exact (i_add rfl (show (1 : Int32).toInt = 1 from rfl) (by omega) (by omega)))) | skip
        exact ih x13 Z I L w_I bd_Z q_I cp_Z   (by omega)  (by omega)
      · skip
        have kb11 : jk Z b11 5 := by first | exact p10 b11 c12 | exact (p10 b11 c12).1 | exact (p10.1 b11 c12).1
        intro b14 eb14
        obtain ⟨x15, ex15, kb14⟩ := sh_o w_I.1 kb11 (j := 8) (k := 6) rfl
        cases eb14.symm.trans ex15
        have t16 : (-1 : Int32).toInt = -1 := rfl
        refine s_X6_lay w_I b14 (I b11 3) (I b11 4) (-1 : Int32) kb14   (fun  I17 L18 w_I17 f_I17  => ?_)
        have q_I17 : FR Ws_X11_weighAlone Z0 I0 Z I17 := q_I.trans w0.1 w0.2.1 (f_I17.mono (by decide))
        have u19 : (I17 v0 4).toInt = (I v0 4).toInt := by rw [f_I17.2.2.1 v0 11 4 kv0 (by decide) (by decide)]
        have u20 : (I17 b11 3).toInt = (I b11 3).toInt := by rw [f_I17.2.2.1 b11 5 3 kb11 (by decide) (by decide)]
        have u21 : (I17 b11 4).toInt = (I b11 4).toInt := by rw [f_I17.2.2.1 b11 5 4 kb11 (by decide) (by decide)]
        intro b22 eb22
        obtain rfl : b14 = b22 := Option.some.inj (eb14.symm.trans eb22)
        obtain ⟨b23, eb23, kb23⟩ := sh_o w_I17.1 kb14 (j := 9) (k := 7) rfl
        obtain ⟨b24, eb24, kb24⟩ := sh_o w_I17.1 kb14 (j := 10) (k := 7) rfl
        refine s_X6_survey w_I17 bd_Z b14 kb14 b23 eb23 b24 eb24  (fun  Z28 I26 L27 w_I26 bd_Z28 f_I26 c_Z28 p25 => ?_)
        have q_I26 : FR Ws_X11_weighAlone Z0 I0 Z28 I26 := q_I17.trans w0.1 w0.2.1 (f_I26.mono (by decide))
        have cp_Z28 : CP Z0 Z28 := cp_Z.trans q_I17.1 c_Z28
        have x_Z28 := f_I26.1
        have k29 := (f_I26.1 _ _ kv0).1
        have k30 := (f_I26.1 _ _ kb11).1
        have k31 := (f_I26.1 _ _ kb14).1
        have k32 := (f_I26.1 _ _ kb11).1
        have e33 := (f_I26.2.1 b11 5 8 kb11 (by decide) (by decide)).trans eb14
        have k34 := (f_I26.1 _ _ kb23).1
        have k35 := (f_I26.1 _ _ kb14).1
        have e36 := (f_I26.2.1 b14 6 9 kb14 (by decide) (by decide)).trans eb23
        have k37 := (f_I26.1 _ _ kb24).1
        have k38 := (f_I26.1 _ _ kb14).1
        have e39 := (f_I26.2.1 b14 6 10 kb14 (by decide) (by decide)).trans eb24
        have u40 : (I26 v0 4).toInt = (I17 v0 4).toInt := by rw [f_I26.2.2.1 v0 11 4 kv0 (by decide) (by decide)]
        have u41 : (I26 b11 3).toInt = (I17 b11 3).toInt := by rw [f_I26.2.2.1 b11 5 3 kb11 (by decide) (by decide)]
        have u42 : (I26 b11 4).toInt = (I17 b11 4).toInt := by rw [f_I26.2.2.1 b11 5 4 kb11 (by decide) (by decide)]
        obtain ⟨p25_0, p25_1⟩ := p25
        intro b43 eb43
        obtain rfl : b14 = b43 := Option.some.inj (e33.symm.trans eb43)
        refine s_X6_raiseTo w_I26 bd_Z28 b14 v1 k31 b23 e36 (by omega) (fun  Z46 I44 L45 w_I44 bd_Z46 f_I44 c_Z46  => ?_)
        have q_I44 : FR Ws_X11_weighAlone Z0 I0 Z46 I44 := q_I26.trans w0.1 w0.2.1 (f_I44.mono (by decide))
        have cp_Z46 : CP Z0 Z46 := cp_Z28.trans q_I26.1 c_Z46
        have x_Z46 := f_I44.1
        have k47 := (f_I44.1 _ _ k29).1
        have k48 := (f_I44.1 _ _ k30).1
        have k49 := (f_I44.1 _ _ k31).1
        have k50 := (f_I44.1 _ _ k32).1
        have e51 := (f_I44.2.1 b11 5 8 k32 (by decide) (by decide)).trans e33
        have k52 := (f_I44.1 _ _ k34).1
        have k53 := (f_I44.1 _ _ k35).1
        have e54 := (f_I44.2.1 b14 6 9 k35 (by decide) (by decide)).trans e36
        have k55 := (f_I44.1 _ _ k37).1
        have k56 := (f_I44.1 _ _ k38).1
        have e57 := (f_I44.2.1 b14 6 10 k38 (by decide) (by decide)).trans e39
        have u58 : (I44 v0 4).toInt = (I26 v0 4).toInt := by rw [f_I44.2.2.1 v0 11 4 k29 (by decide) (by decide)]
        have u59 : (I44 b11 3).toInt = (I26 b11 3).toInt := by rw [f_I44.2.2.1 b11 5 3 k30 (by decide) (by decide)]
        have u60 : (I44 b11 4).toInt = (I26 b11 4).toInt := by rw [f_I44.2.2.1 b11 5 4 k30 (by decide) (by decide)]
        unfold f_X11_weighAlone_b51
        intro x61 ex61
        have rx61 := i_rng x61
        first | (have tx61 : x61.toInt = v2.toInt + (1) := by (rw [ex61]; exact (i_add rfl (show (1 : Int32).toInt = 1 from rfl) (by omega) (by omega)))) | skip
        exact ih x61 Z46 I44 L45 w_I44 bd_Z46 q_I44 cp_Z46   (by omega)  (by omega)
set_option maxHeartbeats 4000000 in
set_option maxRecDepth 100000 in
theorem s_X11_weighAlone {B : Nat × Nat} {T : Nat} {Z : jZ} {I : jI} {L : jL} (w_I : WD Z I) (bd_Z : BUD B Z T) (v0 : Nat) (v1 : Int32) (kv0 : jk Z v0 11) (p0 : 0 ≤ v1.toInt ∧ v1.toInt ≤ 23) {Q : jZ → jI → jL → Prop} (hQ : ∀  (Z' : jZ) (I' : jI) (L' : jL), WD Z' I' → BUD B Z' T → FR Ws_X11_weighAlone Z I Z' I' → CP Z Z' → Q Z' I' L') : f_X11_weighAlone B v0 v1 Z I L Q := by
  unfold f_X11_weighAlone
  have q_I : FR Ws_X11_weighAlone Z I Z I := FR.rf
  have cp_Z : CP Z Z := CP.rf
  have rv1 := i_rng v1
  have t62 : (0 : Int32).toInt = 0 := rfl
  exact ⟨(6 - (0 : Int32).toInt).toNat + 1, l_X11_weighAlone_L2 w_I v0 v1 kv0 p0   hQ   _ (0 : Int32) Z I L w_I bd_Z q_I cp_Z   (by omega)  (by omega)⟩
def Ws_X11_toll : List (Nat × Nat) := [(3, 2), (6, 4), (6, 5), (6, 6), (6, 7), (6, 8), (6, 12), (6, 13), (6, 14), (6, 15), (7, 1), (7, 2), (7, 3), (7, 4), (7, 5), (7, 8), (7, 9), (8, 8), (11, 13), (11, 14), (11, 16)]
set_option maxHeartbeats 4000000 in
set_option maxRecDepth 100000 in
theorem l_X11_toll_L22 {B : Nat × Nat} {T : Nat} {Z0 : jZ} {I0 : jI} {Q : Int32 → jZ → jI → jL → Prop} (w0 : WD Z0 I0) (v0 : Nat) (v1 : Int32) (kv0 : jk Z0 v0 11) (hQ : ∀ (r : Int32) (Z' : jZ) (I' : jI) (L' : jL), WD Z' I' → BUD B Z' T → FR Ws_X11_toll Z0 I0 Z' I' → CP Z0 Z' → Q r Z' I' L') : ∀ (n : Nat) (v2 : Int32) (v3 : Int32) (Z : jZ) (I : jI) (L : jL), WD Z I → BUD B Z T → FR Ws_X11_toll Z0 I0 Z I → CP Z0 Z →   (1 ≤ v3.toInt ∧ v3.toInt ≤ 21) → 21 - v3.toInt < (n : Int) → f_X11_toll_L22 B  Q n v0 v2 v3 Z I L := by
  intro n
  induction n with
  | zero =>
    intro v2 v3 Z I L w_I bd_Z q_I cp_Z   li  me
    exfalso
    omega
  | succ n ih =>
    intro v2 v3 Z I L w_I bd_Z q_I cp_Z   li  me
    unfold f_X11_toll_L22
    have rv2 := i_rng v2
    have rv3 := i_rng v3
    have rv1 := i_rng v1
    have kv0_0 := kv0
    have kv0 := (q_I.1 _ _ kv0).1
    have xq_I := q_I.1
    refine ⟨fun c1 => ?_, fun c1 => ?_⟩
    · skip
      first | (have t2 : (20) < v3.toInt := (i_lt (show (20 : Int32).toInt = 20 from rfl) rfl).mp c1) | (have t2 : (20 : Int32).toInt < v3.toInt := (i_lt rfl rfl).mp c1) | skip
      intro b3 eb3
      obtain ⟨x4, ex4, kb3, lb3⟩ := sh_f w_I.1 kv0 (j := 14) (k := 14) (m := 21) rfl
      cases eb3.symm.trans ex4
      refine s_X11_tellOne w_I v0 ((I b3 (0 : Int32).toNatClampNeg).toInt64) kv0   (fun  I5 L6 w_I5 f_I5  => ?_)
      have q_I5 : FR Ws_X11_toll Z0 I0 Z I5 := q_I.trans w0.1 w0.2.1 (f_I5.mono (by decide))
      exact hQ v2 Z I5 L6 w_I5 bd_Z q_I5 cp_Z 
    · skip
      first | (have t7 : ¬ ((20) < v3.toInt) := (not_congr (i_lt (show (20 : Int32).toInt = 20 from rfl) rfl)).mp c1) | (have t7 : ¬ ((20 : Int32).toInt < v3.toInt) := (not_congr (i_lt rfl rfl)).mp c1) | skip
      intro b8 eb8
      obtain ⟨x9, ex9, kb8, lb8⟩ := sh_f w_I.1 kv0 (j := 14) (k := 14) (m := 21) rfl
      cases eb8.symm.trans ex9
      have o10 : vp_in v3 21 := vi_of rfl (by omega) (by omega)
      refine ⟨o10, ?_⟩
      intro b11 eb11
      obtain rfl : b8 = b11 := Option.some.inj (eb8.symm.trans eb11)
      refine ⟨fun c12 => ?_, fun c12 => ?_⟩
      · skip
        first | (have t13 : ¬ ((I b8 v3.toNatClampNeg).toInt = (I b8 (0 : Int32).toNatClampNeg).toInt) := (not_congr (i_eq rfl rfl)).mp c12) | (have t13 : ¬ ((I b8 v3.toNatClampNeg).toInt = (I b8 (0 : Int32).toNatClampNeg).toInt) := (not_congr (i_eq rfl rfl)).mp c12) | skip
        unfold f_X11_toll_b48
        intro x14 ex14
        have rx14 := i_rng x14
        first | (have tx14 : x14.toInt = v3.toInt + (1) := by (rw [ex14]; exact (i_add rfl (show (1 : Int32).toInt = 1 from rfl) (by omega) (by omega)))) | skip
        exact ih v2 x14 Z I L w_I bd_Z q_I cp_Z   (by omega)  (by omega)
      · skip
        first | (have t15 : (I b8 v3.toNatClampNeg).toInt = (I b8 (0 : Int32).toNatClampNeg).toInt := (i_eq rfl rfl).mp c12) | (have t15 : (I b8 v3.toNatClampNeg).toInt = (I b8 (0 : Int32).toNatClampNeg).toInt := (i_eq rfl rfl).mp c12) | skip
        unfold f_X11_toll_b48
        intro x16 ex16
        have rx16 := i_rng x16
        first | (have tx16 : x16.toInt = v3.toInt + (1) := by (rw [ex16]; exact (i_add rfl (show (1 : Int32).toInt = 1 from rfl) (by omega) (by omega)))) | skip
        exact ih v3 x16 Z I L w_I bd_Z q_I cp_Z   (by omega)  (by omega)
set_option maxHeartbeats 4000000 in
set_option maxRecDepth 100000 in
theorem s_X11_toll {B : Nat × Nat} {T : Nat} {Z : jZ} {I : jI} {L : jL} (w_I : WD Z I) (bd_Z : BUD B Z T) (v0 : Nat) (v1 : Int32) (kv0 : jk Z v0 11) {Q : Int32 → jZ → jI → jL → Prop} (hQ : ∀ (r : Int32) (Z' : jZ) (I' : jI) (L' : jL), WD Z' I' → BUD B Z' T → FR Ws_X11_toll Z I Z' I' → CP Z Z' → Q r Z' I' L') : f_X11_toll B v0 v1 Z I L Q := by
  unfold f_X11_toll
  have q_I : FR Ws_X11_toll Z I Z I := FR.rf
  have cp_Z : CP Z Z := CP.rf
  have rv1 := i_rng v1
  intro b17 eb17
  obtain ⟨x18, ex18, kb17⟩ := sh_o w_I.1 kv0 (j := 2) (k := 8) rfl
  cases eb17.symm.trans ex18
  refine s_X8_has w_I b17 v1 kb17   (fun r19 p20 => ?_)
  have rr19 := i_rng r19
  refine ⟨fun c21 => ?_, fun c21 => ?_⟩
  · skip
    first | (have t22 : ¬ (r19.toInt = (0)) := (not_congr (i_eq rfl (show (0 : Int32).toInt = 0 from rfl))).mp c21) | (have t22 : ¬ (r19.toInt = (0 : Int32).toInt) := (not_congr (i_eq rfl rfl)).mp c21) | skip
    refine s_X11_weighAlone w_I bd_Z v0 v1 kv0  (by omega) (fun  Z25 I23 L24 w_I23 bd_Z25 f_I23 c_Z25  => ?_)
    have q_I23 : FR Ws_X11_toll Z I Z25 I23 := q_I.trans w_I.1 w_I.2.1 (f_I23.mono (by decide))
    have cp_Z25 : CP Z Z25 := cp_Z.trans q_I.1 c_Z25
    have x_Z25 := f_I23.1
    have k26 := (f_I23.1 _ _ kv0).1
    have k27 := (f_I23.1 _ _ kb17).1
    have k28 := (f_I23.1 _ _ kv0).1
    have e29 := (f_I23.2.1 v0 11 2 kv0 (by decide) (by decide)).trans eb17
    have t30 : (0 : Int32).toInt = 0 := rfl
    have t31 : (1 : Int32).toInt = 1 := rfl
    exact ⟨(21 - (1 : Int32).toInt).toNat + 1, l_X11_toll_L22 w_I v0 v1 kv0   hQ   _ (0 : Int32) (1 : Int32) Z25 I23 L24 w_I23 bd_Z25 q_I23 cp_Z25   (by omega)  (by omega)⟩
  · skip
    first | (have t32 : r19.toInt = (0) := (i_eq rfl (show (0 : Int32).toInt = 0 from rfl)).mp c21) | (have t32 : r19.toInt = (0 : Int32).toInt := (i_eq rfl rfl).mp c21) | skip
    have t33 : (-1 : Int32).toInt = -1 := rfl
    exact hQ (-1 : Int32) Z I L w_I bd_Z q_I cp_Z 
def Ws_X11_peace : List (Nat × Nat) := [(3, 2), (6, 4), (6, 5), (6, 6), (6, 7), (6, 14), (6, 15), (7, 1), (7, 2), (7, 3), (7, 4), (7, 5), (7, 8), (7, 9), (8, 5), (8, 8), (11, 11), (11, 12), (11, 16)]
set_option maxHeartbeats 4000000 in
set_option maxRecDepth 100000 in
theorem l_X11_peace_L32 {B : Nat × Nat} {T : Nat} {Z0 : jZ} {I0 : jI} {Q : Int32 → jZ → jI → jL → Prop} (w0 : WD Z0 I0) (v0 : Nat) (kv0 : jk Z0 v0 11) (v4 : Int32) (hQ : ∀ (r : Int32) (Z' : jZ) (I' : jI) (L' : jL), WD Z' I' → BUD B Z' T → FR Ws_X11_peace Z0 I0 Z' I' → CP Z0 Z' → Q r Z' I' L') {K19 : Nat → Int32 → Int32 → Int32 → Int32 → jZ → jI → jL → Prop} {N19 : Int} (hK19 : ∀ (v1 : Int32) (v2 : Int32) (v3 : Int32) (v4 : Int32) (Z : jZ) (I : jI) (L : jL), WD Z I → BUD B Z T → FR Ws_X11_peace Z0 I0 Z I → CP Z0 Z →   (0 ≤ v4.toInt ∧ v4.toInt ≤ 8) → 8 - v4.toInt < N19 → K19 v0 v1 v2 v3 v4 Z I L) : ∀ (n : Nat) (v1 : Int32) (v2 : Int32) (v3 : Int32) (v5 : Int32) (Z : jZ) (I : jI) (L : jL), WD Z I → BUD B Z T → FR Ws_X11_peace Z0 I0 Z I → CP Z0 Z →   (0 ≤ v4.toInt ∧ v4.toInt ≤ 7 ∧ v4.toInt < v5.toInt ∧ v5.toInt ≤ 8) → 8 - v4.toInt ≤ N19 → 8 - v5.toInt < (n : Int) → f_X11_peace_L32 B K19 Q n v0 v1 v2 v3 v4 v5 Z I L := by
  intro n
  induction n with
  | zero =>
    intro v1 v2 v3 v5 Z I L w_I bd_Z q_I cp_Z   li hm19 me
    exfalso
    omega
  | succ n ih =>
    intro v1 v2 v3 v5 Z I L w_I bd_Z q_I cp_Z   li hm19 me
    unfold f_X11_peace_L32
    have rv1 := i_rng v1
    have rv2 := i_rng v2
    have rv3 := i_rng v3
    have rv5 := i_rng v5
    have rv4 := i_rng v4
    have kv0_0 := kv0
    have kv0 := (q_I.1 _ _ kv0).1
    have xq_I := q_I.1
    refine ⟨fun c1 => ?_, fun c1 => ?_⟩
    · skip
      first | (have t2 : (8) ≤ v5.toInt := (i_le (show (8 : Int32).toInt = 8 from rfl) rfl).mp c1) | (have t2 : (8 : Int32).toInt ≤ v5.toInt := (i_le rfl rfl).mp c1) | skip
      intro x3 ex3
      have rx3 := i_rng x3
      first | (have tx3 : x3.toInt = v4.toInt + (1) := by (rw [ex3]; exact (i_add rfl (show (1 : Int32).toInt = 1 from rfl) (by omega) (by omega)))) | skip
      exact hK19 v1 v2 v3 x3 Z I L w_I bd_Z q_I cp_Z   (by omega)  (by omega)
    · skip
      first | (have t4 : ¬ ((8) ≤ v5.toInt) := (not_congr (i_le (show (8 : Int32).toInt = 8 from rfl) rfl)).mp c1) | (have t4 : ¬ ((8 : Int32).toInt ≤ v5.toInt) := (not_congr (i_le rfl rfl)).mp c1) | skip
      intro b5 eb5
      obtain ⟨x6, ex6, kb5⟩ := sh_o w_I.1 kv0 (j := 2) (k := 8) rfl
      cases eb5.symm.trans ex6
      refine s_X8_inFeud w_I b5 v4 v5 kb5   (fun r7  => ?_)
      have rr7 := i_rng r7
      refine ⟨fun c8 => ?_, fun c8 => ?_⟩
      · skip
        first | (have t9 : ¬ (r7.toInt = (0)) := (not_congr (i_eq rfl (show (0 : Int32).toInt = 0 from rfl))).mp c8) | (have t9 : ¬ (r7.toInt = (0 : Int32).toInt) := (not_congr (i_eq rfl rfl)).mp c8) | skip
        intro b10 eb10
        obtain ⟨x11, ex11, kb10, lb10⟩ := sh_f w_I.1 kv0 (j := 11) (k := 14) (m := 3) rfl
        cases eb10.symm.trans ex11
        intro b12 eb12
        obtain ⟨x13, ex13, kb12, lb12⟩ := sh_f w_I.1 kv0 (j := 12) (k := 14) (m := 3) rfl
        cases eb12.symm.trans ex13
        intro b14 eb14
        obtain rfl : b10 = b14 := Option.some.inj (eb10.symm.trans eb14)
        have t15 : (0 : Int32).toInt = 0 := rfl
        have t16 : (0 : Int32).toInt = 0 := rfl
        have t17 : (3 : Int32).toInt = 3 := rfl
        have t18 := i_nat (x := (0 : Int32)) (show (0 : Int32).toInt = 0 from rfl) (by omega)
        have t19 := i_nat (x := (0 : Int32)) (show (0 : Int32).toInt = 0 from rfl) (by omega)
        have t20 := i_nat (x := (3 : Int32)) (show (3 : Int32).toInt = 3 from rfl) (by omega)
        refine ⟨⟨(not_congr (i_lt (show (0 : Int32).toInt = 0 from rfl) (show (0 : Int32).toInt = 0 from rfl))).mpr (by omega), (not_congr (i_lt (show (0 : Int32).toInt = 0 from rfl) (show (0 : Int32).toInt = 0 from rfl))).mpr (by omega), (not_congr (i_lt (show (3 : Int32).toInt = 3 from rfl) (show (0 : Int32).toInt = 0 from rfl))).mpr (by omega), by omega, by omega⟩, ?_⟩
        intro I21 eI21
        have w_I21 : WD Z I21 := by rw [eI21]; exact WD_cpy w_I 11 12 kv0 eb12 kb12 rfl rfl (by decide) (fun _ _ _ => trivial)
        have f_I21 : FR [(11, 12)] Z I Z I21 := by rw [eI21]; exact FR_upA w_I.2.1 kv0 eb12 kb12 rfl rfl List.mem_cons_self
        have q_I21 : FR Ws_X11_peace Z0 I0 Z I21 := q_I.trans w0.1 w0.2.1 (f_I21.mono (by decide))
        intro b22 eb22
        obtain rfl : b5 = b22 := Option.some.inj (eb5.symm.trans eb22)
        refine s_X8_mindsFeud w_I21 b5 v4 v5 kb5   (fun r23  => ?_)
        have rr23 := i_rng r23
        refine ⟨fun c24 => ?_, fun c24 => ?_⟩
        · skip
          first | (have t25 : r23.toInt = (0) := (i_eq rfl (show (0 : Int32).toInt = 0 from rfl)).mp c24) | (have t25 : r23.toInt = (0 : Int32).toInt := (i_eq rfl rfl).mp c24) | skip
          unfold f_X11_peace_b121
          intro b26 eb26
          obtain rfl : b12 = b26 := Option.some.inj (eb12.symm.trans eb26)
          intro b27 eb27
          obtain rfl : b10 = b27 := Option.some.inj (eb10.symm.trans eb27)
          refine ⟨fun c28 => ?_, fun c28 => ?_⟩
          · skip
            first | (have t29 : (I21 b12 (0 : Int32).toNatClampNeg).toInt < (I21 b10 (0 : Int32).toNatClampNeg).toInt := (i_lt rfl rfl).mp c28) | (have t29 : (I21 b12 (0 : Int32).toNatClampNeg).toInt < (I21 b10 (0 : Int32).toNatClampNeg).toInt := (i_lt rfl rfl).mp c28) | skip
            unfold f_X11_peace_b175
            intro x30 ex30
            have rx30 := i_rng x30
            first | (have tx30 : x30.toInt = v5.toInt + (1) := by (rw [ex30]; exact (i_add rfl (show (1 : Int32).toInt = 1 from rfl) (by omega) (by omega)))) | skip
            exact ih v1 v2 v3 x30 Z I21 L w_I21 bd_Z q_I21 cp_Z   (by omega) (by omega) (by omega)
          · skip
            first | (have t31 : ¬ ((I21 b12 (0 : Int32).toNatClampNeg).toInt < (I21 b10 (0 : Int32).toNatClampNeg).toInt) := (not_congr (i_lt rfl rfl)).mp c28) | (have t31 : ¬ ((I21 b12 (0 : Int32).toNatClampNeg).toInt < (I21 b10 (0 : Int32).toNatClampNeg).toInt) := (not_congr (i_lt rfl rfl)).mp c28) | skip
            refine ⟨fun c32 => ?_, fun c32 => ?_⟩
            · skip
              first | (have t33 : v1.toInt = (-2) := (i_eq rfl (show (-2 : Int32).toInt = -2 from rfl)).mp c32) | (have t33 : v1.toInt = (-2 : Int32).toInt := (i_eq rfl rfl).mp c32) | skip
              unfold f_X11_peace_b152
              intro x34 ex34
              have rx34 := i_rng x34
              first | (have tx34 : x34.toInt = ((v4.toInt * (10)) + v5.toInt) := by (rw [ex34]; exact (i_add (i_mul rfl (show (10 : Int32).toInt = 10 from rfl) (by omega) (by omega)) rfl (by omega) (by omega)))) | (have tx34 : x34.toInt = ((v4 * (10 : Int32)) + v5).toInt := by rw [ex34])
              intro b35 eb35
              obtain rfl : b12 = b35 := Option.some.inj (eb12.symm.trans eb35)
              intro x36 ex36
              have rx36 := i_rng x36
              first | (have tx36 : x36.toInt = (I21 b12 (1 : Int32).toNatClampNeg).toInt := by (rw [ex36]; exact rfl)) | (have tx36 : x36.toInt = (I21 b12 (1 : Int32).toNatClampNeg).toInt := by rw [ex36])
              intro b37 eb37
              obtain rfl : b12 = b37 := Option.some.inj (eb12.symm.trans eb37)
              intro x38 ex38
              have rx38 := i_rng x38
              first | (have tx38 : x38.toInt = (I21 b12 (0 : Int32).toNatClampNeg).toInt := by (rw [ex38]; exact rfl)) | (have tx38 : x38.toInt = (I21 b12 (0 : Int32).toNatClampNeg).toInt := by rw [ex38])
              unfold f_X11_peace_b175
              intro x39 ex39
              have rx39 := i_rng x39
              first | (have tx39 : x39.toInt = v5.toInt + (1) := by (rw [ex39]; exact (i_add rfl (show (1 : Int32).toInt = 1 from rfl) (by omega) (by omega)))) | skip
              exact ih x34 x36 x38 x39 Z I21 L w_I21 bd_Z q_I21 cp_Z   (by omega) (by omega) (by omega)
            · skip
              first | (have t40 : ¬ (v1.toInt = (-2)) := (not_congr (i_eq rfl (show (-2 : Int32).toInt = -2 from rfl))).mp c32) | (have t40 : ¬ (v1.toInt = (-2 : Int32).toInt) := (not_congr (i_eq rfl rfl)).mp c32) | skip
              intro b41 eb41
              obtain rfl : b12 = b41 := Option.some.inj (eb12.symm.trans eb41)
              refine ⟨fun c42 => ?_, fun c42 => ?_⟩
              · skip
                first | (have t43 : v2.toInt ≤ (I21 b12 (1 : Int32).toNatClampNeg).toInt := (i_le rfl rfl).mp c42) | (have t43 : v2.toInt ≤ (I21 b12 (1 : Int32).toNatClampNeg).toInt := (i_le rfl rfl).mp c42) | skip
                unfold f_X11_peace_b175
                intro x44 ex44
                have rx44 := i_rng x44
                first | (have tx44 : x44.toInt = v5.toInt + (1) := by (rw [ex44]; exact (i_add rfl (show (1 : Int32).toInt = 1 from rfl) (by omega) (by omega)))) | skip
                exact ih v1 v2 v3 x44 Z I21 L w_I21 bd_Z q_I21 cp_Z   (by omega) (by omega) (by omega)
              · skip
                first | (have t45 : ¬ (v2.toInt ≤ (I21 b12 (1 : Int32).toNatClampNeg).toInt) := (not_congr (i_le rfl rfl)).mp c42) | (have t45 : ¬ (v2.toInt ≤ (I21 b12 (1 : Int32).toNatClampNeg).toInt) := (not_congr (i_le rfl rfl)).mp c42) | skip
                unfold f_X11_peace_b152
                intro x46 ex46
                have rx46 := i_rng x46
                first | (have tx46 : x46.toInt = ((v4.toInt * (10)) + v5.toInt) := by (rw [ex46]; exact (i_add (i_mul rfl (show (10 : Int32).toInt = 10 from rfl) (by omega) (by omega)) rfl (by omega) (by omega)))) | (have tx46 : x46.toInt = ((v4 * (10 : Int32)) + v5).toInt := by rw [ex46])
                intro b47 eb47
                obtain rfl : b12 = b47 := Option.some.inj (eb12.symm.trans eb47)
                intro x48 ex48
                have rx48 := i_rng x48
                first | (have tx48 : x48.toInt = (I21 b12 (1 : Int32).toNatClampNeg).toInt := by (rw [ex48]; exact rfl)) | (have tx48 : x48.toInt = (I21 b12 (1 : Int32).toNatClampNeg).toInt := by rw [ex48])
                intro b49 eb49
                obtain rfl : b12 = b49 := Option.some.inj (eb12.symm.trans eb49)
                intro x50 ex50
                have rx50 := i_rng x50
                first | (have tx50 : x50.toInt = (I21 b12 (0 : Int32).toNatClampNeg).toInt := by (rw [ex50]; exact rfl)) | (have tx50 : x50.toInt = (I21 b12 (0 : Int32).toNatClampNeg).toInt := by rw [ex50])
                unfold f_X11_peace_b175
                intro x51 ex51
                have rx51 := i_rng x51
                first | (have tx51 : x51.toInt = v5.toInt + (1) := by (rw [ex51]; exact (i_add rfl (show (1 : Int32).toInt = 1 from rfl) (by omega) (by omega)))) | skip
                exact ih x46 x48 x50 x51 Z I21 L w_I21 bd_Z q_I21 cp_Z   (by omega) (by omega) (by omega)
        · skip
          first | (have t52 : ¬ (r23.toInt = (0)) := (not_congr (i_eq rfl (show (0 : Int32).toInt = 0 from rfl))).mp c24) | (have t52 : ¬ (r23.toInt = (0 : Int32).toInt) := (not_congr (i_eq rfl rfl)).mp c24) | skip
          intro b53 eb53
          obtain rfl : b5 = b53 := Option.some.inj (eb5.symm.trans eb53)
          have t54 : (0 : Int32).toInt = 0 := rfl
          refine s_X8_quarrel w_I21 b5 v4 v5 (0 : Int32) kb5   (fun  I55 L56 w_I55 f_I55  => ?_)
          have q_I55 : FR Ws_X11_peace Z0 I0 Z I55 := q_I21.trans w0.1 w0.2.1 (f_I55.mono (by decide))
          intro b57 eb57
          obtain rfl : b12 = b57 := Option.some.inj (eb12.symm.trans eb57)
          have t58 : (-1 : Int32).toInt = -1 := rfl
          refine s_X11_sumUp w_I55 bd_Z v0 (-1 : Int32) b12 kv0 kb12 v0 11 12 kv0 eb12 (by decide) rfl (by omega) (by intro i v; trivial) (fun  Z61 I59 L60 w_I59 bd_Z61 f_I59 c_Z61  => ?_)
          have q_I59 : FR Ws_X11_peace Z0 I0 Z61 I59 := q_I55.trans w0.1 w0.2.1 (f_I59.mono (by first | decide | (intro p hp; simp at hp ⊢; omega) | simp))
          have cp_Z61 : CP Z0 Z61 := cp_Z.trans q_I55.1 c_Z61
          have x_Z61 := f_I59.1
          have k62 := (f_I59.1 _ _ kv0).1
          have k63 := (f_I59.1 _ _ kb5).1
          have k64 := (f_I59.1 _ _ kv0).1
          have e65 := (f_I59.2.1 v0 11 2 kv0 (by decide) (by decide)).trans eb5
          have k66 := (f_I59.1 _ _ kb10).1
          have l67 := (f_I59.1 _ _ kb10).2.trans lb10
          have k68 := (f_I59.1 _ _ kv0).1
          have e69 := (f_I59.2.1 v0 11 11 kv0 (by decide) (by decide)).trans eb10
          have k70 := (f_I59.1 _ _ kb12).1
          have l71 := (f_I59.1 _ _ kb12).2.trans lb12
          have k72 := (f_I59.1 _ _ kv0).1
          have e73 := (f_I59.2.1 v0 11 12 kv0 (by decide) (by decide)).trans eb12
          intro b74 eb74
          obtain rfl : b5 = b74 := Option.some.inj (e65.symm.trans eb74)
          have t75 : (1 : Int32).toInt = 1 := rfl
          refine s_X8_quarrel w_I59 b5 v4 v5 (1 : Int32) k63   (fun  I76 L77 w_I76 f_I76  => ?_)
          have q_I76 : FR Ws_X11_peace Z0 I0 Z61 I76 := q_I59.trans w0.1 w0.2.1 (f_I76.mono (by decide))
          unfold f_X11_peace_b121
          intro b78 eb78
          obtain rfl : b12 = b78 := Option.some.inj (e73.symm.trans eb78)
          intro b79 eb79
          obtain rfl : b10 = b79 := Option.some.inj (e69.symm.trans eb79)
          refine ⟨fun c80 => ?_, fun c80 => ?_⟩
          · skip
            first | (have t81 : (I76 b12 (0 : Int32).toNatClampNeg).toInt < (I76 b10 (0 : Int32).toNatClampNeg).toInt := (i_lt rfl rfl).mp c80) | (have t81 : (I76 b12 (0 : Int32).toNatClampNeg).toInt < (I76 b10 (0 : Int32).toNatClampNeg).toInt := (i_lt rfl rfl).mp c80) | skip
            unfold f_X11_peace_b175
            intro x82 ex82
            have rx82 := i_rng x82
            first | (have tx82 : x82.toInt = v5.toInt + (1) := by (rw [ex82]; exact (i_add rfl (show (1 : Int32).toInt = 1 from rfl) (by omega) (by omega)))) | skip
            exact ih v1 v2 v3 x82 Z61 I76 L77 w_I76 bd_Z61 q_I76 cp_Z61   (by omega) (by omega) (by omega)
          · skip
            first | (have t83 : ¬ ((I76 b12 (0 : Int32).toNatClampNeg).toInt < (I76 b10 (0 : Int32).toNatClampNeg).toInt) := (not_congr (i_lt rfl rfl)).mp c80) | (have t83 : ¬ ((I76 b12 (0 : Int32).toNatClampNeg).toInt < (I76 b10 (0 : Int32).toNatClampNeg).toInt) := (not_congr (i_lt rfl rfl)).mp c80) | skip
            refine ⟨fun c84 => ?_, fun c84 => ?_⟩
            · skip
              first | (have t85 : v1.toInt = (-2) := (i_eq rfl (show (-2 : Int32).toInt = -2 from rfl)).mp c84) | (have t85 : v1.toInt = (-2 : Int32).toInt := (i_eq rfl rfl).mp c84) | skip
              unfold f_X11_peace_b152
              intro x86 ex86
              have rx86 := i_rng x86
              first | (have tx86 : x86.toInt = ((v4.toInt * (10)) + v5.toInt) := by (rw [ex86]; exact (i_add (i_mul rfl (show (10 : Int32).toInt = 10 from rfl) (by omega) (by omega)) rfl (by omega) (by omega)))) | (have tx86 : x86.toInt = ((v4 * (10 : Int32)) + v5).toInt := by rw [ex86])
              intro b87 eb87
              obtain rfl : b12 = b87 := Option.some.inj (e73.symm.trans eb87)
              intro x88 ex88
              have rx88 := i_rng x88
              first | (have tx88 : x88.toInt = (I76 b12 (1 : Int32).toNatClampNeg).toInt := by (rw [ex88]; exact rfl)) | (have tx88 : x88.toInt = (I76 b12 (1 : Int32).toNatClampNeg).toInt := by rw [ex88])
              intro b89 eb89
              obtain rfl : b12 = b89 := Option.some.inj (e73.symm.trans eb89)
              intro x90 ex90
              have rx90 := i_rng x90
              first | (have tx90 : x90.toInt = (I76 b12 (0 : Int32).toNatClampNeg).toInt := by (rw [ex90]; exact rfl)) | (have tx90 : x90.toInt = (I76 b12 (0 : Int32).toNatClampNeg).toInt := by rw [ex90])
              unfold f_X11_peace_b175
              intro x91 ex91
              have rx91 := i_rng x91
              first | (have tx91 : x91.toInt = v5.toInt + (1) := by (rw [ex91]; exact (i_add rfl (show (1 : Int32).toInt = 1 from rfl) (by omega) (by omega)))) | skip
              exact ih x86 x88 x90 x91 Z61 I76 L77 w_I76 bd_Z61 q_I76 cp_Z61   (by omega) (by omega) (by omega)
            · skip
              first | (have t92 : ¬ (v1.toInt = (-2)) := (not_congr (i_eq rfl (show (-2 : Int32).toInt = -2 from rfl))).mp c84) | (have t92 : ¬ (v1.toInt = (-2 : Int32).toInt) := (not_congr (i_eq rfl rfl)).mp c84) | skip
              intro b93 eb93
              obtain rfl : b12 = b93 := Option.some.inj (e73.symm.trans eb93)
              refine ⟨fun c94 => ?_, fun c94 => ?_⟩
              · skip
                first | (have t95 : v2.toInt ≤ (I76 b12 (1 : Int32).toNatClampNeg).toInt := (i_le rfl rfl).mp c94) | (have t95 : v2.toInt ≤ (I76 b12 (1 : Int32).toNatClampNeg).toInt := (i_le rfl rfl).mp c94) | skip
                unfold f_X11_peace_b175
                intro x96 ex96
                have rx96 := i_rng x96
                first | (have tx96 : x96.toInt = v5.toInt + (1) := by (rw [ex96]; exact (i_add rfl (show (1 : Int32).toInt = 1 from rfl) (by omega) (by omega)))) | skip
                exact ih v1 v2 v3 x96 Z61 I76 L77 w_I76 bd_Z61 q_I76 cp_Z61   (by omega) (by omega) (by omega)
              · skip
                first | (have t97 : ¬ (v2.toInt ≤ (I76 b12 (1 : Int32).toNatClampNeg).toInt) := (not_congr (i_le rfl rfl)).mp c94) | (have t97 : ¬ (v2.toInt ≤ (I76 b12 (1 : Int32).toNatClampNeg).toInt) := (not_congr (i_le rfl rfl)).mp c94) | skip
                unfold f_X11_peace_b152
                intro x98 ex98
                have rx98 := i_rng x98
                first | (have tx98 : x98.toInt = ((v4.toInt * (10)) + v5.toInt) := by (rw [ex98]; exact (i_add (i_mul rfl (show (10 : Int32).toInt = 10 from rfl) (by omega) (by omega)) rfl (by omega) (by omega)))) | (have tx98 : x98.toInt = ((v4 * (10 : Int32)) + v5).toInt := by rw [ex98])
                intro b99 eb99
                obtain rfl : b12 = b99 := Option.some.inj (e73.symm.trans eb99)
                intro x100 ex100
                have rx100 := i_rng x100
                first | (have tx100 : x100.toInt = (I76 b12 (1 : Int32).toNatClampNeg).toInt := by (rw [ex100]; exact rfl)) | (have tx100 : x100.toInt = (I76 b12 (1 : Int32).toNatClampNeg).toInt := by rw [ex100])
                intro b101 eb101
                obtain rfl : b12 = b101 := Option.some.inj (e73.symm.trans eb101)
                intro x102 ex102
                have rx102 := i_rng x102
                first | (have tx102 : x102.toInt = (I76 b12 (0 : Int32).toNatClampNeg).toInt := by (rw [ex102]; exact rfl)) | (have tx102 : x102.toInt = (I76 b12 (0 : Int32).toNatClampNeg).toInt := by rw [ex102])
                unfold f_X11_peace_b175
                intro x103 ex103
                have rx103 := i_rng x103
                first | (have tx103 : x103.toInt = v5.toInt + (1) := by (rw [ex103]; exact (i_add rfl (show (1 : Int32).toInt = 1 from rfl) (by omega) (by omega)))) | skip
                exact ih x98 x100 x102 x103 Z61 I76 L77 w_I76 bd_Z61 q_I76 cp_Z61   (by omega) (by omega) (by omega)
      · skip
        first | (have t104 : r7.toInt = (0) := (i_eq rfl (show (0 : Int32).toInt = 0 from rfl)).mp c8) | (have t104 : r7.toInt = (0 : Int32).toInt := (i_eq rfl rfl).mp c8) | skip
        unfold f_X11_peace_b175
        intro x105 ex105
        have rx105 := i_rng x105
        first | (have tx105 : x105.toInt = v5.toInt + (1) := by (rw [ex105]; exact (i_add rfl (show (1 : Int32).toInt = 1 from rfl) (by omega) (by omega)))) | skip
        exact ih v1 v2 v3 x105 Z I L w_I bd_Z q_I cp_Z   (by omega) (by omega) (by omega)
set_option maxHeartbeats 4000000 in
set_option maxRecDepth 100000 in
theorem l_X11_peace_L19 {B : Nat × Nat} {T : Nat} {Z0 : jZ} {I0 : jI} {Q : Int32 → jZ → jI → jL → Prop} (w0 : WD Z0 I0) (v0 : Nat) (kv0 : jk Z0 v0 11) (hQ : ∀ (r : Int32) (Z' : jZ) (I' : jI) (L' : jL), WD Z' I' → BUD B Z' T → FR Ws_X11_peace Z0 I0 Z' I' → CP Z0 Z' → Q r Z' I' L') : ∀ (n : Nat) (v1 : Int32) (v2 : Int32) (v3 : Int32) (v4 : Int32) (Z : jZ) (I : jI) (L : jL), WD Z I → BUD B Z T → FR Ws_X11_peace Z0 I0 Z I → CP Z0 Z →   (0 ≤ v4.toInt ∧ v4.toInt ≤ 8) → 8 - v4.toInt < (n : Int) → f_X11_peace_L19 B  Q n v0 v1 v2 v3 v4 Z I L := by
  intro n
  induction n with
  | zero =>
    intro v1 v2 v3 v4 Z I L w_I bd_Z q_I cp_Z   li  me
    exfalso
    omega
  | succ n ih =>
    intro v1 v2 v3 v4 Z I L w_I bd_Z q_I cp_Z   li  me
    unfold f_X11_peace_L19
    have rv1 := i_rng v1
    have rv2 := i_rng v2
    have rv3 := i_rng v3
    have rv4 := i_rng v4
    have kv0_0 := kv0
    have kv0 := (q_I.1 _ _ kv0).1
    have xq_I := q_I.1
    refine ⟨fun c106 => ?_, fun c106 => ?_⟩
    · skip
      first | (have t107 : (8) ≤ v4.toInt := (i_le (show (8 : Int32).toInt = 8 from rfl) rfl).mp c106) | (have t107 : (8 : Int32).toInt ≤ v4.toInt := (i_le rfl rfl).mp c106) | skip
      refine ⟨fun c108 => ?_, fun c108 => ?_⟩
      · skip
        first | (have t109 : v1.toInt = (-2) := (i_eq rfl (show (-2 : Int32).toInt = -2 from rfl)).mp c108) | (have t109 : v1.toInt = (-2 : Int32).toInt := (i_eq rfl rfl).mp c108) | skip
        exact hQ v1 Z I L w_I bd_Z q_I cp_Z 
      · skip
        first | (have t110 : ¬ (v1.toInt = (-2)) := (not_congr (i_eq rfl (show (-2 : Int32).toInt = -2 from rfl))).mp c108) | (have t110 : ¬ (v1.toInt = (-2 : Int32).toInt) := (not_congr (i_eq rfl rfl)).mp c108) | skip
        refine s_X11_tellTwo w_I v0 (v2.toInt64) (v3.toInt64) kv0   (fun  I111 L112 w_I111 f_I111  => ?_)
        have q_I111 : FR Ws_X11_peace Z0 I0 Z I111 := q_I.trans w0.1 w0.2.1 (f_I111.mono (by decide))
        exact hQ v1 Z I111 L112 w_I111 bd_Z q_I111 cp_Z 
    · skip
      first | (have t113 : ¬ ((8) ≤ v4.toInt) := (not_congr (i_le (show (8 : Int32).toInt = 8 from rfl) rfl)).mp c106) | (have t113 : ¬ ((8 : Int32).toInt ≤ v4.toInt) := (not_congr (i_le rfl rfl)).mp c106) | skip
      intro x114 ex114
      have rx114 := i_rng x114
      first | (have tx114 : x114.toInt = (v4.toInt + (1)) := by (rw [ex114]; exact (i_add rfl (show (1 : Int32).toInt = 1 from rfl) (by omega) (by omega)))) | (have tx114 : x114.toInt = (v4 + (1 : Int32)).toInt := by rw [ex114])
      exact ⟨(8 - x114.toInt).toNat + 1, l_X11_peace_L32 w0 v0 kv0_0 v4  hQ ih  _ v1 v2 v3 x114 Z I L w_I bd_Z q_I cp_Z   (by omega) (by omega) (by omega)⟩
set_option maxHeartbeats 4000000 in
set_option maxRecDepth 100000 in
theorem s_X11_peace {B : Nat × Nat} {T : Nat} {Z : jZ} {I : jI} {L : jL} (w_I : WD Z I) (bd_Z : BUD B Z T) (v0 : Nat) (kv0 : jk Z v0 11) {Q : Int32 → jZ → jI → jL → Prop} (hQ : ∀ (r : Int32) (Z' : jZ) (I' : jI) (L' : jL), WD Z' I' → BUD B Z' T → FR Ws_X11_peace Z I Z' I' → CP Z Z' → Q r Z' I' L') : f_X11_peace B v0 Z I L Q := by
  unfold f_X11_peace
  have q_I : FR Ws_X11_peace Z I Z I := FR.rf
  have cp_Z : CP Z Z := CP.rf
  intro b115 eb115
  obtain ⟨x116, ex116, kb115, lb115⟩ := sh_f w_I.1 kv0 (j := 11) (k := 14) (m := 3) rfl
  cases eb115.symm.trans ex116
  have t117 : (-1 : Int32).toInt = -1 := rfl
  refine s_X11_sumUp w_I bd_Z v0 (-1 : Int32) b115 kv0 kb115 v0 11 11 kv0 eb115 (by decide) rfl (by omega) (by intro i v; trivial) (fun  Z120 I118 L119 w_I118 bd_Z120 f_I118 c_Z120  => ?_)
  have q_I118 : FR Ws_X11_peace Z I Z120 I118 := q_I.trans w_I.1 w_I.2.1 (f_I118.mono (by first | decide | (intro p hp; simp at hp ⊢; omega) | simp))
  have cp_Z120 : CP Z Z120 := cp_Z.trans q_I.1 c_Z120
  have x_Z120 := f_I118.1
  have k121 := (f_I118.1 _ _ kv0).1
  have k122 := (f_I118.1 _ _ kb115).1
  have l123 := (f_I118.1 _ _ kb115).2.trans lb115
  have k124 := (f_I118.1 _ _ kv0).1
  have e125 := (f_I118.2.1 v0 11 11 kv0 (by decide) (by decide)).trans eb115
  have t126 : (-2 : Int32).toInt = -2 := rfl
  have t127 : (0 : Int32).toInt = 0 := rfl
  have t128 : (0 : Int32).toInt = 0 := rfl
  have t129 : (0 : Int32).toInt = 0 := rfl
  exact ⟨(8 - (0 : Int32).toInt).toNat + 1, l_X11_peace_L19 w_I v0 kv0   hQ   _ (-2 : Int32) (0 : Int32) (0 : Int32) (0 : Int32) Z120 I118 L119 w_I118 bd_Z120 q_I118 cp_Z120   (by omega)  (by omega)⟩
def Ws_X11_would : List (Nat × Nat) := [(3, 2), (6, 4), (6, 5), (6, 6), (6, 7), (6, 8), (6, 12), (6, 13), (6, 14), (6, 15), (7, 1), (7, 2), (7, 3), (7, 4), (7, 5), (7, 8), (7, 9), (8, 8), (11, 13), (11, 14)]
set_option maxHeartbeats 4000000 in
set_option maxRecDepth 100000 in
theorem s_X11_would {B : Nat × Nat} {T : Nat} {Z : jZ} {I : jI} {L : jL} (w_I : WD Z I) (bd_Z : BUD B Z T) (v0 : Nat) (v1 : Int32) (v2 : Int32) (kv0 : jk Z v0 11) {Q : Int32 → jZ → jI → jL → Prop} (hQ : ∀ (r : Int32) (Z' : jZ) (I' : jI) (L' : jL), WD Z' I' → BUD B Z' T → FR Ws_X11_would Z I Z' I' → CP Z Z' → Q r Z' I' L') : f_X11_would B v0 v1 v2 Z I L Q := by
  unfold f_X11_would
  have q_I : FR Ws_X11_would Z I Z I := FR.rf
  have cp_Z : CP Z Z := CP.rf
  have rv1 := i_rng v1
  have rv2 := i_rng v2
  intro b1 eb1
  obtain ⟨x2, ex2, kb1⟩ := sh_o w_I.1 kv0 (j := 2) (k := 8) rfl
  cases eb1.symm.trans ex2
  refine s_X8_has w_I b1 v1 kb1   (fun r3 p4 => ?_)
  have rr3 := i_rng r3
  refine ⟨fun c5 => ?_, fun c5 => ?_⟩
  · skip
    first | (have t6 : r3.toInt = (0) := (i_eq rfl (show (0 : Int32).toInt = 0 from rfl)).mp c5) | (have t6 : r3.toInt = (0 : Int32).toInt := (i_eq rfl rfl).mp c5) | skip
    have t7 : (-1 : Int32).toInt = -1 := rfl
    exact hQ (-1 : Int32) Z I L w_I bd_Z q_I cp_Z 
  · skip
    first | (have t8 : ¬ (r3.toInt = (0)) := (not_congr (i_eq rfl (show (0 : Int32).toInt = 0 from rfl))).mp c5) | (have t8 : ¬ (r3.toInt = (0 : Int32).toInt) := (not_congr (i_eq rfl rfl)).mp c5) | skip
    refine s_X11_isAsked w_I v2    (fun r9 p10 => ?_)
    have rr9 := i_rng r9
    refine ⟨fun c11 => ?_, fun c11 => ?_⟩
    · skip
      first | (have t12 : ¬ (r9.toInt = (0)) := (not_congr (i_eq rfl (show (0 : Int32).toInt = 0 from rfl))).mp c11) | (have t12 : ¬ (r9.toInt = (0 : Int32).toInt) := (not_congr (i_eq rfl rfl)).mp c11) | skip
      refine s_X11_weighAlone w_I bd_Z v0 v1 kv0  (by omega) (fun  Z15 I13 L14 w_I13 bd_Z15 f_I13 c_Z15  => ?_)
      have q_I13 : FR Ws_X11_would Z I Z15 I13 := q_I.trans w_I.1 w_I.2.1 (f_I13.mono (by decide))
      have cp_Z15 : CP Z Z15 := cp_Z.trans q_I.1 c_Z15
      have x_Z15 := f_I13.1
      have k16 := (f_I13.1 _ _ kv0).1
      have k17 := (f_I13.1 _ _ kb1).1
      have k18 := (f_I13.1 _ _ kv0).1
      have e19 := (f_I13.2.1 v0 11 2 kv0 (by decide) (by decide)).trans eb1
      intro b20 eb20
      obtain ⟨x21, ex21, kb20, lb20⟩ := sh_f w_I13.1 k16 (j := 13) (k := 14) (m := 21) rfl
      cases eb20.symm.trans ex21
      have o22 : vp_in v2 21 := vi_of rfl (by omega) (by omega)
      refine ⟨o22, ?_⟩
      exact hQ (I13 b20 v2.toNatClampNeg) Z15 I13 L14 w_I13 bd_Z15 q_I13 cp_Z15 
    · skip
      first | (have t23 : r9.toInt = (0) := (i_eq rfl (show (0 : Int32).toInt = 0 from rfl)).mp c11) | (have t23 : r9.toInt = (0 : Int32).toInt := (i_eq rfl rfl).mp c11) | skip
      have t24 : (-1 : Int32).toInt = -1 := rfl
      exact hQ (-1 : Int32) Z I L w_I bd_Z q_I cp_Z 
def Ws_X11_best : List (Nat × Nat) := [(3, 2), (6, 4), (6, 5), (6, 6), (6, 7), (6, 8), (6, 12), (6, 13), (6, 14), (6, 15), (7, 1), (7, 2), (7, 3), (7, 4), (7, 5), (7, 8), (7, 9), (8, 8), (11, 13), (11, 14), (11, 16)]
set_option maxHeartbeats 4000000 in
set_option maxRecDepth 100000 in
theorem s_X11_best {B : Nat × Nat} {T : Nat} {Z : jZ} {I : jI} {L : jL} (w_I : WD Z I) (bd_Z : BUD B Z T) (v0 : Nat) (v1 : Int32) (kv0 : jk Z v0 11) {Q : Int32 → jZ → jI → jL → Prop} (hQ : ∀ (r : Int32) (Z' : jZ) (I' : jI) (L' : jL), WD Z' I' → BUD B Z' T → FR Ws_X11_best Z I Z' I' → CP Z Z' → Q r Z' I' L') : f_X11_best B v0 v1 Z I L Q := by
  unfold f_X11_best
  have q_I : FR Ws_X11_best Z I Z I := FR.rf
  have cp_Z : CP Z Z := CP.rf
  have rv1 := i_rng v1
  intro b1 eb1
  obtain ⟨x2, ex2, kb1⟩ := sh_o w_I.1 kv0 (j := 2) (k := 8) rfl
  cases eb1.symm.trans ex2
  refine s_X8_has w_I b1 v1 kb1   (fun r3 p4 => ?_)
  have rr3 := i_rng r3
  refine ⟨fun c5 => ?_, fun c5 => ?_⟩
  · skip
    first | (have t6 : ¬ (r3.toInt = (0)) := (not_congr (i_eq rfl (show (0 : Int32).toInt = 0 from rfl))).mp c5) | (have t6 : ¬ (r3.toInt = (0 : Int32).toInt) := (not_congr (i_eq rfl rfl)).mp c5) | skip
    refine s_X11_weighAlone w_I bd_Z v0 v1 kv0  (by omega) (fun  Z9 I7 L8 w_I7 bd_Z9 f_I7 c_Z9  => ?_)
    have q_I7 : FR Ws_X11_best Z I Z9 I7 := q_I.trans w_I.1 w_I.2.1 (f_I7.mono (by decide))
    have cp_Z9 : CP Z Z9 := cp_Z.trans q_I.1 c_Z9
    have x_Z9 := f_I7.1
    have k10 := (f_I7.1 _ _ kv0).1
    have k11 := (f_I7.1 _ _ kb1).1
    have k12 := (f_I7.1 _ _ kv0).1
    have e13 := (f_I7.2.1 v0 11 2 kv0 (by decide) (by decide)).trans eb1
    refine s_X11_mostPaid w_I7 v0 k10   (fun r14 p15 => ?_)
    have rr14 := i_rng r14
    intro b16 eb16
    obtain ⟨x17, ex17, kb16, lb16⟩ := sh_f w_I7.1 k10 (j := 13) (k := 14) (m := 21) rfl
    cases eb16.symm.trans ex17
    have o18 : vp_in r14 21 := vi_of rfl (by omega) (by omega)
    refine ⟨o18, ?_⟩
    refine s_X11_tellOne w_I7 v0 ((I7 b16 r14.toNatClampNeg).toInt64) k10   (fun  I19 L20 w_I19 f_I19  => ?_)
    have q_I19 : FR Ws_X11_best Z I Z9 I19 := q_I7.trans w_I.1 w_I.2.1 (f_I19.mono (by decide))
    exact hQ r14 Z9 I19 L20 w_I19 bd_Z9 q_I19 cp_Z9 
  · skip
    first | (have t21 : r3.toInt = (0) := (i_eq rfl (show (0 : Int32).toInt = 0 from rfl)).mp c5) | (have t21 : r3.toInt = (0 : Int32).toInt := (i_eq rfl rfl).mp c5) | skip
    have t22 : (-1 : Int32).toInt = -1 := rfl
    exact hQ (-1 : Int32) Z I L w_I bd_Z q_I cp_Z 
def Ws_X11_hold : List (Nat × Nat) := [(1, 0), (1, 2), (1, 3), (1, 4), (1, 5), (1, 6), (1, 7), (1, 8), (1, 9), (3, 2), (6, 4), (6, 5), (6, 6), (6, 7), (6, 14), (6, 15), (7, 1), (7, 2), (7, 3), (7, 4), (7, 5), (7, 8), (7, 9), (8, 8)]
set_option maxHeartbeats 4000000 in
set_option maxRecDepth 100000 in
theorem l_X11_hold_L16 {B : Nat × Nat} {T : Nat} {Z0 : jZ} {I0 : jI} {Q : jZ → jI → jL → Prop} (w0 : WD Z0 I0) (v0 : Nat) (v1 : Int32) (kv0 : jk Z0 v0 11) (hQ : ∀  (Z' : jZ) (I' : jI) (L' : jL), WD Z' I' → BUD B Z' T → FR Ws_X11_hold Z0 I0 Z' I' → CP Z0 Z' → Q Z' I' L') : ∀ (n : Nat) (v2 : Int32) (Z : jZ) (I : jI) (L : jL), WD Z I → BUD B Z T → FR Ws_X11_hold Z0 I0 Z I → CP Z0 Z →   (0 ≤ v2.toInt ∧ v2.toInt ≤ 6) → 6 - v2.toInt < (n : Int) → f_X11_hold_L16 B  Q n v0 v1 v2 Z I L := by
  intro n
  induction n with
  | zero =>
    intro v2 Z I L w_I bd_Z q_I cp_Z   li  me
    exfalso
    omega
  | succ n ih =>
    intro v2 Z I L w_I bd_Z q_I cp_Z   li  me
    unfold f_X11_hold_L16
    have rv2 := i_rng v2
    have rv1 := i_rng v1
    have kv0_0 := kv0
    have kv0 := (q_I.1 _ _ kv0).1
    have xq_I := q_I.1
    have t2 : 0 ≤ (I v0 4).toInt ∧ (I v0 4).toInt ≤ 6 := w_I.fld 11 4 kv0 (by decide)
    refine ⟨fun c3 => ?_, fun c3 => ?_⟩
    · skip
      first | (have t4 : (I v0 4).toInt ≤ v2.toInt := (i_le rfl rfl).mp c3) | (have t4 : (I v0 4).toInt ≤ v2.toInt := (i_le rfl rfl).mp c3) | skip
      intro b5 eb5
      obtain ⟨x6, ex6, kb5⟩ := sh_o w_I.1 kv0 (j := 10) (k := 1) rfl
      cases eb5.symm.trans ex6
      refine s_X1_run w_I b5 v1 kb5   (fun  I7 L8 w_I7 f_I7  => ?_)
      have q_I7 : FR Ws_X11_hold Z0 I0 Z I7 := q_I.trans w0.1 w0.2.1 (f_I7.mono (by decide))
      have u9 : (I7 v0 4).toInt = (I v0 4).toInt := by rw [f_I7.2.2.1 v0 11 4 kv0 (by decide) (by decide)]
      exact hQ  Z I7 L8 w_I7 bd_Z q_I7 cp_Z 
    · skip
      first | (have t10 : ¬ ((I v0 4).toInt ≤ v2.toInt) := (not_congr (i_le rfl rfl)).mp c3) | (have t10 : ¬ ((I v0 4).toInt ≤ v2.toInt) := (not_congr (i_le rfl rfl)).mp c3) | skip
      refine s_X11_find w_I v0 v2 kv0   (fun r11 p12 => ?_)
      refine ⟨fun c14 => ?_, fun b13 c14 => ?_⟩
      · skip
        unfold f_X11_hold_b81
        intro x15 ex15
        have rx15 := i_rng x15
        first | (have tx15 : x15.toInt = v2.toInt + (1) := by (rw [ex15]; exact (i_add rfl (show (1 : Int32).toInt = 1 from rfl) (by omega) (by omega)))) | skip
        exact ih x15 Z I L w_I bd_Z q_I cp_Z   (by omega)  (by omega)
      · skip
        have kb13 : jk Z b13 5 := by first | exact p12 b13 c14 | exact (p12 b13 c14).1 | exact (p12.1 b13 c14).1
        intro b16 eb16
        obtain ⟨x17, ex17, kb16⟩ := sh_o w_I.1 kb13 (j := 8) (k := 6) rfl
        cases eb16.symm.trans ex17
        have t18 : (-1 : Int32).toInt = -1 := rfl
        refine s_X6_lay w_I b16 (I b13 3) (I b13 4) (-1 : Int32) kb16   (fun  I19 L20 w_I19 f_I19  => ?_)
        have q_I19 : FR Ws_X11_hold Z0 I0 Z I19 := q_I.trans w0.1 w0.2.1 (f_I19.mono (by decide))
        have u21 : (I19 v0 4).toInt = (I v0 4).toInt := by rw [f_I19.2.2.1 v0 11 4 kv0 (by decide) (by decide)]
        have u22 : (I19 b13 3).toInt = (I b13 3).toInt := by rw [f_I19.2.2.1 b13 5 3 kb13 (by decide) (by decide)]
        have u23 : (I19 b13 4).toInt = (I b13 4).toInt := by rw [f_I19.2.2.1 b13 5 4 kb13 (by decide) (by decide)]
        intro b24 eb24
        obtain rfl : b16 = b24 := Option.some.inj (eb16.symm.trans eb24)
        refine s_X6_cheapest w_I19 bd_Z b16 kb16   (fun r25 Z28 I26 L27 w_I26 bd_Z28 f_I26 c_Z28  => ?_)
        have q_I26 : FR Ws_X11_hold Z0 I0 Z28 I26 := q_I19.trans w0.1 w0.2.1 (f_I26.mono (by decide))
        have cp_Z28 : CP Z0 Z28 := cp_Z.trans q_I19.1 c_Z28
        have x_Z28 := f_I26.1
        have k29 := (f_I26.1 _ _ kv0).1
        have k30 := (f_I26.1 _ _ kb13).1
        have k31 := (f_I26.1 _ _ kb16).1
        have k32 := (f_I26.1 _ _ kb13).1
        have e33 := (f_I26.2.1 b13 5 8 kb13 (by decide) (by decide)).trans eb16
        have u34 : (I26 v0 4).toInt = (I19 v0 4).toInt := by rw [f_I26.2.2.1 v0 11 4 kv0 (by decide) (by decide)]
        have u35 : (I26 b13 3).toInt = (I19 b13 3).toInt := by rw [f_I26.2.2.1 b13 5 3 kb13 (by decide) (by decide)]
        have u36 : (I26 b13 4).toInt = (I19 b13 4).toInt := by rw [f_I26.2.2.1 b13 5 4 kb13 (by decide) (by decide)]
        refine ⟨fun c37 => ?_, fun c37 => ?_⟩
        · skip
          first | (have t38 : (lg_cmp r25 (9223372036854775807 : Int64)).toInt = (0) := (i_eq rfl (show (0 : Int32).toInt = 0 from rfl)).mp c37) | (have t38 : (lg_cmp r25 (9223372036854775807 : Int64)).toInt = (0 : Int32).toInt := (i_eq rfl rfl).mp c37) | skip
          unfold f_X11_hold_b81
          intro x39 ex39
          have rx39 := i_rng x39
          first | (have tx39 : x39.toInt = v2.toInt + (1) := by (rw [ex39]; exact (i_add rfl (show (1 : Int32).toInt = 1 from rfl) (by omega) (by omega)))) | skip
          exact ih x39 Z28 I26 L27 w_I26 bd_Z28 q_I26 cp_Z28   (by omega)  (by omega)
        · skip
          first | (have t40 : ¬ ((lg_cmp r25 (9223372036854775807 : Int64)).toInt = (0)) := (not_congr (i_eq rfl (show (0 : Int32).toInt = 0 from rfl))).mp c37) | (have t40 : ¬ ((lg_cmp r25 (9223372036854775807 : Int64)).toInt = (0 : Int32).toInt) := (not_congr (i_eq rfl rfl)).mp c37) | skip
          intro b41 eb41
          obtain ⟨x42, ex42, kb41⟩ := sh_o w_I26.1 k29 (j := 10) (k := 1) rfl
          cases eb41.symm.trans ex42
          refine s_X1_invite w_I26 b41 v2 r25 kb41   (fun  I43 L44 w_I43 f_I43  => ?_)
          have q_I43 : FR Ws_X11_hold Z0 I0 Z28 I43 := q_I26.trans w0.1 w0.2.1 (f_I43.mono (by decide))
          have u45 : (I43 v0 4).toInt = (I26 v0 4).toInt := by rw [f_I43.2.2.1 v0 11 4 k29 (by decide) (by decide)]
          have u46 : (I43 b13 3).toInt = (I26 b13 3).toInt := by rw [f_I43.2.2.1 b13 5 3 k30 (by decide) (by decide)]
          have u47 : (I43 b13 4).toInt = (I26 b13 4).toInt := by rw [f_I43.2.2.1 b13 5 4 k30 (by decide) (by decide)]
          unfold f_X11_hold_b81
          intro x48 ex48
          have rx48 := i_rng x48
          first | (have tx48 : x48.toInt = v2.toInt + (1) := by (rw [ex48]; exact (i_add rfl (show (1 : Int32).toInt = 1 from rfl) (by omega) (by omega)))) | skip
          exact ih x48 Z28 I43 L44 w_I43 bd_Z28 q_I43 cp_Z28   (by omega)  (by omega)
set_option maxHeartbeats 4000000 in
set_option maxRecDepth 100000 in
theorem s_X11_hold {B : Nat × Nat} {T : Nat} {Z : jZ} {I : jI} {L : jL} (w_I : WD Z I) (bd_Z : BUD B Z T) (v0 : Nat) (v1 : Int32) (kv0 : jk Z v0 11) {Q : jZ → jI → jL → Prop} (hQ : ∀  (Z' : jZ) (I' : jI) (L' : jL), WD Z' I' → BUD B Z' T → FR Ws_X11_hold Z I Z' I' → CP Z Z' → Q Z' I' L') : f_X11_hold B v0 v1 Z I L Q := by
  unfold f_X11_hold
  have q_I : FR Ws_X11_hold Z I Z I := FR.rf
  have cp_Z : CP Z Z := CP.rf
  have rv1 := i_rng v1
  intro b49 eb49
  obtain ⟨x50, ex50, kb49⟩ := sh_o w_I.1 kv0 (j := 10) (k := 1) rfl
  cases eb49.symm.trans ex50
  intro b51 eb51
  obtain ⟨x52, ex52, kb51⟩ := sh_o w_I.1 kv0 (j := 2) (k := 8) rfl
  cases eb51.symm.trans ex52
  have t54 : 0 ≤ (I b51 9).toInt ∧ (I b51 9).toInt ≤ 24 := w_I.fld 8 9 kb51 (by decide)
  refine s_X1_prepare w_I b49 (I b51 9) kb49  (by omega) (fun  I55 L56 w_I55 f_I55  => ?_)
  have q_I55 : FR Ws_X11_hold Z I Z I55 := q_I.trans w_I.1 w_I.2.1 (f_I55.mono (by decide))
  have u57 : (I55 b51 9).toInt = (I b51 9).toInt := by rw [f_I55.2.2.1 b51 8 9 kb51 (by decide) (by decide)]
  have t58 : (0 : Int32).toInt = 0 := rfl
  exact ⟨(6 - (0 : Int32).toInt).toNat + 1, l_X11_hold_L16 w_I v0 v1 kv0   hQ   _ (0 : Int32) Z I55 L56 w_I55 bd_Z q_I55 cp_Z   (by omega)  (by omega)⟩
def Ws_X11_feast : List (Nat × Nat) := [(1, 0), (1, 2), (1, 3), (1, 4), (1, 5), (1, 6), (1, 7), (1, 8), (1, 9), (3, 2), (6, 4), (6, 5), (6, 6), (6, 7), (6, 14), (6, 15), (7, 1), (7, 2), (7, 3), (7, 4), (7, 5), (7, 8), (7, 9), (8, 8), (11, 16)]
set_option maxHeartbeats 4000000 in
set_option maxRecDepth 100000 in
theorem s_X11_feast {B : Nat × Nat} {T : Nat} {Z : jZ} {I : jI} {L : jL} (w_I : WD Z I) (bd_Z : BUD B Z T) (v0 : Nat) (v1 : Int32) (kv0 : jk Z v0 11) {Q : Int32 → jZ → jI → jL → Prop} (hQ : ∀ (r : Int32) (Z' : jZ) (I' : jI) (L' : jL), WD Z' I' → BUD B Z' T → FR Ws_X11_feast Z I Z' I' → CP Z Z' → Q r Z' I' L') : f_X11_feast B v0 v1 Z I L Q := by
  unfold f_X11_feast
  have q_I : FR Ws_X11_feast Z I Z I := FR.rf
  have cp_Z : CP Z Z := CP.rf
  have rv1 := i_rng v1
  refine ⟨fun c1 => ?_, fun c1 => ?_⟩
  · skip
    first | (have t2 : v1.toInt < (1) := (i_lt rfl (show (1 : Int32).toInt = 1 from rfl)).mp c1) | (have t2 : v1.toInt < (1 : Int32).toInt := (i_lt rfl rfl).mp c1) | skip
    have t3 : (-1 : Int32).toInt = -1 := rfl
    exact hQ (-1 : Int32) Z I L w_I bd_Z q_I cp_Z 
  · skip
    first | (have t4 : ¬ (v1.toInt < (1)) := (not_congr (i_lt rfl (show (1 : Int32).toInt = 1 from rfl))).mp c1) | (have t4 : ¬ (v1.toInt < (1 : Int32).toInt) := (not_congr (i_lt rfl rfl)).mp c1) | skip
    refine ⟨fun c5 => ?_, fun c5 => ?_⟩
    · skip
      first | (have t6 : (6) < v1.toInt := (i_lt (show (6 : Int32).toInt = 6 from rfl) rfl).mp c5) | (have t6 : (6 : Int32).toInt < v1.toInt := (i_lt rfl rfl).mp c5) | skip
      have t7 : (-1 : Int32).toInt = -1 := rfl
      exact hQ (-1 : Int32) Z I L w_I bd_Z q_I cp_Z 
    · skip
      first | (have t8 : ¬ ((6) < v1.toInt) := (not_congr (i_lt (show (6 : Int32).toInt = 6 from rfl) rfl)).mp c5) | (have t8 : ¬ ((6 : Int32).toInt < v1.toInt) := (not_congr (i_lt rfl rfl)).mp c5) | skip
      intro b9 eb9
      obtain ⟨x10, ex10, kb9⟩ := sh_o w_I.1 kv0 (j := 2) (k := 8) rfl
      cases eb9.symm.trans ex10
      have t12 : 0 ≤ (I b9 9).toInt ∧ (I b9 9).toInt ≤ 24 := w_I.fld 8 9 kb9 (by decide)
      refine ⟨fun c13 => ?_, fun c13 => ?_⟩
      · skip
        first | (have t14 : ¬ ((I b9 9).toInt = (0)) := (not_congr (i_eq rfl (show (0 : Int32).toInt = 0 from rfl))).mp c13) | (have t14 : ¬ ((I b9 9).toInt = (0 : Int32).toInt) := (not_congr (i_eq rfl rfl)).mp c13) | skip
        refine s_X11_hold w_I bd_Z v0 v1 kv0   (fun  Z17 I15 L16 w_I15 bd_Z17 f_I15 c_Z17  => ?_)
        have q_I15 : FR Ws_X11_feast Z I Z17 I15 := q_I.trans w_I.1 w_I.2.1 (f_I15.mono (by decide))
        have cp_Z17 : CP Z Z17 := cp_Z.trans q_I.1 c_Z17
        have x_Z17 := f_I15.1
        have k18 := (f_I15.1 _ _ kv0).1
        have k19 := (f_I15.1 _ _ kb9).1
        have k20 := (f_I15.1 _ _ kv0).1
        have e21 := (f_I15.2.1 v0 11 2 kv0 (by decide) (by decide)).trans eb9
        have u22 : (I15 b9 9).toInt = (I b9 9).toInt := by rw [f_I15.2.2.1 b9 8 9 kb9 (by decide) (by decide)]
        intro b23 eb23
        obtain ⟨x24, ex24, kb23⟩ := sh_o w_I15.1 k18 (j := 10) (k := 1) rfl
        cases eb23.symm.trans ex24
        refine s_X1_longestWaiting w_I15 b23 kb23   (fun r25 p26 => ?_)
        have rr25 := i_rng r25
        refine ⟨fun c27 => ?_, fun c27 => ?_⟩
        · skip
          first | (have t28 : ¬ (r25.toInt = (-1)) := (not_congr (i_eq rfl (show (-1 : Int32).toInt = -1 from rfl))).mp c27) | (have t28 : ¬ (r25.toInt = (-1 : Int32).toInt) := (not_congr (i_eq rfl rfl)).mp c27) | skip
          intro b29 eb29
          obtain rfl : b23 = b29 := Option.some.inj (eb23.symm.trans eb29)
          intro b30 eb30
          obtain ⟨x31, ex31, kb30, lb30⟩ := sh_f w_I15.1 kb23 (j := 3) (k := 14) (m := 6) rfl
          cases eb30.symm.trans ex31
          have o32 : vp_in r25 6 := vi_of rfl (by omega) (by omega)
          refine ⟨o32, ?_⟩
          unfold f_X11_feast_b56
          refine s_X11_tellTwo w_I15 v0 ((I15 b30 r25.toNatClampNeg).toInt64) (r25.toInt64) k18   (fun  I33 L34 w_I33 f_I33  => ?_)
          have q_I33 : FR Ws_X11_feast Z I Z17 I33 := q_I15.trans w_I.1 w_I.2.1 (f_I33.mono (by decide))
          have u35 : (I33 b9 9).toInt = (I15 b9 9).toInt := by rw [f_I33.2.2.1 b9 8 9 k19 (by decide) (by decide)]
          intro b36 eb36
          obtain rfl : b23 = b36 := Option.some.inj (eb23.symm.trans eb36)
          refine s_X11_tellMore w_I33 v0 ((I33 b23 9).toInt64) k18   (fun  I37 L38 w_I37 f_I37  => ?_)
          have q_I37 : FR Ws_X11_feast Z I Z17 I37 := q_I33.trans w_I.1 w_I.2.1 (f_I37.mono (by decide))
          have u39 : (I37 b9 9).toInt = (I33 b9 9).toInt := by rw [f_I37.2.2.1 b9 8 9 k19 (by decide) (by decide)]
          have u40 : (I37 b23 9).toInt = (I33 b23 9).toInt := by rw [f_I37.2.2.1 b23 1 9 kb23 (by decide) (by decide)]
          intro b41 eb41
          obtain rfl : b23 = b41 := Option.some.inj (eb23.symm.trans eb41)
          exact hQ (I37 b23 8) Z17 I37 L38 w_I37 bd_Z17 q_I37 cp_Z17 
        · skip
          first | (have t42 : r25.toInt = (-1) := (i_eq rfl (show (-1 : Int32).toInt = -1 from rfl)).mp c27) | (have t42 : r25.toInt = (-1 : Int32).toInt := (i_eq rfl rfl).mp c27) | skip
          unfold f_X11_feast_b56
          refine s_X11_tellTwo w_I15 v0 (0 : Int64) (r25.toInt64) k18   (fun  I43 L44 w_I43 f_I43  => ?_)
          have q_I43 : FR Ws_X11_feast Z I Z17 I43 := q_I15.trans w_I.1 w_I.2.1 (f_I43.mono (by decide))
          have u45 : (I43 b9 9).toInt = (I15 b9 9).toInt := by rw [f_I43.2.2.1 b9 8 9 k19 (by decide) (by decide)]
          intro b46 eb46
          obtain rfl : b23 = b46 := Option.some.inj (eb23.symm.trans eb46)
          refine s_X11_tellMore w_I43 v0 ((I43 b23 9).toInt64) k18   (fun  I47 L48 w_I47 f_I47  => ?_)
          have q_I47 : FR Ws_X11_feast Z I Z17 I47 := q_I43.trans w_I.1 w_I.2.1 (f_I47.mono (by decide))
          have u49 : (I47 b9 9).toInt = (I43 b9 9).toInt := by rw [f_I47.2.2.1 b9 8 9 k19 (by decide) (by decide)]
          have u50 : (I47 b23 9).toInt = (I43 b23 9).toInt := by rw [f_I47.2.2.1 b23 1 9 kb23 (by decide) (by decide)]
          intro b51 eb51
          obtain rfl : b23 = b51 := Option.some.inj (eb23.symm.trans eb51)
          exact hQ (I47 b23 8) Z17 I47 L48 w_I47 bd_Z17 q_I47 cp_Z17 
      · skip
        first | (have t52 : (I b9 9).toInt = (0) := (i_eq rfl (show (0 : Int32).toInt = 0 from rfl)).mp c13) | (have t52 : (I b9 9).toInt = (0 : Int32).toInt := (i_eq rfl rfl).mp c13) | skip
        have t53 : (-1 : Int32).toInt = -1 := rfl
        exact hQ (-1 : Int32) Z I L w_I bd_Z q_I cp_Z 
def Ws_X11_jam : List (Nat × Nat) := [(1, 0), (1, 2), (1, 3), (1, 4), (1, 5), (1, 6), (1, 7), (1, 8), (1, 9), (3, 2), (6, 4), (6, 5), (6, 6), (6, 7), (6, 14), (6, 15), (7, 1), (7, 2), (7, 3), (7, 4), (7, 5), (7, 8), (7, 9), (8, 8), (11, 16)]
set_option maxHeartbeats 4000000 in
set_option maxRecDepth 100000 in
theorem l_X11_jam_L22 {B : Nat × Nat} {T : Nat} {Z0 : jZ} {I0 : jI} {Q : Int32 → jZ → jI → jL → Prop} (w0 : WD Z0 I0) (v0 : Nat) (kv0 : jk Z0 v0 11) (hQ : ∀ (r : Int32) (Z' : jZ) (I' : jI) (L' : jL), WD Z' I' → BUD B Z' T → FR Ws_X11_jam Z0 I0 Z' I' → CP Z0 Z' → Q r Z' I' L') : ∀ (n : Nat) (v1 : Int32) (v2 : Int32) (Z : jZ) (I : jI) (L : jL), WD Z I → BUD B Z T → FR Ws_X11_jam Z0 I0 Z I → CP Z0 Z →   (0 ≤ v1.toInt ∧ v1.toInt ≤ 23 ∧ 1 ≤ v2.toInt ∧ v2.toInt ≤ 24) → 24 - v2.toInt < (n : Int) → f_X11_jam_L22 B  Q n v0 v1 v2 Z I L := by
  intro n
  induction n with
  | zero =>
    intro v1 v2 Z I L w_I bd_Z q_I cp_Z   li  me
    exfalso
    omega
  | succ n ih =>
    intro v1 v2 Z I L w_I bd_Z q_I cp_Z   li  me
    unfold f_X11_jam_L22
    have rv1 := i_rng v1
    have rv2 := i_rng v2
    have kv0_0 := kv0
    have kv0 := (q_I.1 _ _ kv0).1
    have xq_I := q_I.1
    intro b1 eb1
    obtain ⟨x2, ex2, kb1⟩ := sh_o w_I.1 kv0 (j := 2) (k := 8) rfl
    cases eb1.symm.trans ex2
    have t4 : 0 ≤ (I b1 9).toInt ∧ (I b1 9).toInt ≤ 24 := w_I.fld 8 9 kb1 (by decide)
    refine ⟨fun c5 => ?_, fun c5 => ?_⟩
    · skip
      first | (have t6 : (I b1 9).toInt ≤ v2.toInt := (i_le rfl rfl).mp c5) | (have t6 : (I b1 9).toInt ≤ v2.toInt := (i_le rfl rfl).mp c5) | skip
      intro b7 eb7
      obtain ⟨x8, ex8, kb7⟩ := sh_o w_I.1 kv0 (j := 10) (k := 1) rfl
      cases eb7.symm.trans ex8
      intro b9 eb9
      obtain ⟨x10, ex10, kb9, lb9⟩ := sh_f w_I.1 kb7 (j := 5) (k := 14) (m := 24) rfl
      cases eb9.symm.trans ex10
      have o11 : vp_in v1 24 := vi_of rfl (by omega) (by omega)
      refine ⟨o11, ?_⟩
      refine ⟨fun c12 => ?_, fun c12 => ?_⟩
      · skip
        first | (have t13 : ¬ ((I b9 v1.toNatClampNeg).toInt = (0)) := (not_congr (i_eq rfl (show (0 : Int32).toInt = 0 from rfl))).mp c12) | (have t13 : ¬ ((I b9 v1.toNatClampNeg).toInt = (0 : Int32).toInt) := (not_congr (i_eq rfl rfl)).mp c12) | skip
        intro b14 eb14
        obtain rfl : b7 = b14 := Option.some.inj (eb7.symm.trans eb14)
        intro b15 eb15
        obtain rfl : b9 = b15 := Option.some.inj (eb9.symm.trans eb15)
        have o16 : vp_in v1 24 := vi_of rfl (by omega) (by omega)
        refine ⟨o16, ?_⟩
        refine s_X11_tellOne w_I v0 ((I b9 v1.toNatClampNeg).toInt64) kv0   (fun  I17 L18 w_I17 f_I17  => ?_)
        have q_I17 : FR Ws_X11_jam Z0 I0 Z I17 := q_I.trans w0.1 w0.2.1 (f_I17.mono (by decide))
        have u19 : (I17 b1 9).toInt = (I b1 9).toInt := by rw [f_I17.2.2.1 b1 8 9 kb1 (by decide) (by decide)]
        exact hQ v1 Z I17 L18 w_I17 bd_Z q_I17 cp_Z 
      · skip
        first | (have t20 : (I b9 v1.toNatClampNeg).toInt = (0) := (i_eq rfl (show (0 : Int32).toInt = 0 from rfl)).mp c12) | (have t20 : (I b9 v1.toNatClampNeg).toInt = (0 : Int32).toInt := (i_eq rfl rfl).mp c12) | skip
        have t21 : (-2 : Int32).toInt = -2 := rfl
        exact hQ (-2 : Int32) Z I L w_I bd_Z q_I cp_Z 
    · skip
      first | (have t22 : ¬ ((I b1 9).toInt ≤ v2.toInt) := (not_congr (i_le rfl rfl)).mp c5) | (have t22 : ¬ ((I b1 9).toInt ≤ v2.toInt) := (not_congr (i_le rfl rfl)).mp c5) | skip
      intro b23 eb23
      obtain ⟨x24, ex24, kb23⟩ := sh_o w_I.1 kv0 (j := 10) (k := 1) rfl
      cases eb23.symm.trans ex24
      intro b25 eb25
      obtain ⟨x26, ex26, kb25, lb25⟩ := sh_f w_I.1 kb23 (j := 5) (k := 14) (m := 24) rfl
      cases eb25.symm.trans ex26
      have o27 : vp_in v2 24 := vi_of rfl (by omega) (by omega)
      refine ⟨o27, ?_⟩
      intro b28 eb28
      obtain rfl : b23 = b28 := Option.some.inj (eb23.symm.trans eb28)
      intro b29 eb29
      obtain rfl : b25 = b29 := Option.some.inj (eb25.symm.trans eb29)
      have o30 : vp_in v1 24 := vi_of rfl (by omega) (by omega)
      refine ⟨o30, ?_⟩
      refine ⟨fun c31 => ?_, fun c31 => ?_⟩
      · skip
        first | (have t32 : (I b25 v2.toNatClampNeg).toInt ≤ (I b25 v1.toNatClampNeg).toInt := (i_le rfl rfl).mp c31) | (have t32 : (I b25 v2.toNatClampNeg).toInt ≤ (I b25 v1.toNatClampNeg).toInt := (i_le rfl rfl).mp c31) | skip
        unfold f_X11_jam_b59
        intro x33 ex33
        have rx33 := i_rng x33
        first | (have tx33 : x33.toInt = v2.toInt + (1) := by (rw [ex33]; exact (i_add rfl (show (1 : Int32).toInt = 1 from rfl) (by omega) (by omega)))) | skip
        exact ih v1 x33 Z I L w_I bd_Z q_I cp_Z   (by omega)  (by omega)
      · skip
        first | (have t34 : ¬ ((I b25 v2.toNatClampNeg).toInt ≤ (I b25 v1.toNatClampNeg).toInt) := (not_congr (i_le rfl rfl)).mp c31) | (have t34 : ¬ ((I b25 v2.toNatClampNeg).toInt ≤ (I b25 v1.toNatClampNeg).toInt) := (not_congr (i_le rfl rfl)).mp c31) | skip
        unfold f_X11_jam_b59
        intro x35 ex35
        have rx35 := i_rng x35
        first | (have tx35 : x35.toInt = v2.toInt + (1) := by (rw [ex35]; exact (i_add rfl (show (1 : Int32).toInt = 1 from rfl) (by omega) (by omega)))) | skip
        exact ih v2 x35 Z I L w_I bd_Z q_I cp_Z   (by omega)  (by omega)
set_option maxHeartbeats 4000000 in
set_option maxRecDepth 100000 in
theorem s_X11_jam {B : Nat × Nat} {T : Nat} {Z : jZ} {I : jI} {L : jL} (w_I : WD Z I) (bd_Z : BUD B Z T) (v0 : Nat) (kv0 : jk Z v0 11) {Q : Int32 → jZ → jI → jL → Prop} (hQ : ∀ (r : Int32) (Z' : jZ) (I' : jI) (L' : jL), WD Z' I' → BUD B Z' T → FR Ws_X11_jam Z I Z' I' → CP Z Z' → Q r Z' I' L') : f_X11_jam B v0 Z I L Q := by
  unfold f_X11_jam
  have q_I : FR Ws_X11_jam Z I Z I := FR.rf
  have cp_Z : CP Z Z := CP.rf
  intro b36 eb36
  obtain ⟨x37, ex37, kb36⟩ := sh_o w_I.1 kv0 (j := 2) (k := 8) rfl
  cases eb36.symm.trans ex37
  have t39 : 0 ≤ (I b36 9).toInt ∧ (I b36 9).toInt ≤ 24 := w_I.fld 8 9 kb36 (by decide)
  refine ⟨fun c40 => ?_, fun c40 => ?_⟩
  · skip
    first | (have t41 : ¬ ((I b36 9).toInt = (0)) := (not_congr (i_eq rfl (show (0 : Int32).toInt = 0 from rfl))).mp c40) | (have t41 : ¬ ((I b36 9).toInt = (0 : Int32).toInt) := (not_congr (i_eq rfl rfl)).mp c40) | skip
    have t42 : (1 : Int32).toInt = 1 := rfl
    refine s_X11_hold w_I bd_Z v0 (1 : Int32) kv0   (fun  Z45 I43 L44 w_I43 bd_Z45 f_I43 c_Z45  => ?_)
    have q_I43 : FR Ws_X11_jam Z I Z45 I43 := q_I.trans w_I.1 w_I.2.1 (f_I43.mono (by decide))
    have cp_Z45 : CP Z Z45 := cp_Z.trans q_I.1 c_Z45
    have x_Z45 := f_I43.1
    have k46 := (f_I43.1 _ _ kv0).1
    have k47 := (f_I43.1 _ _ kb36).1
    have k48 := (f_I43.1 _ _ kv0).1
    have e49 := (f_I43.2.1 v0 11 2 kv0 (by decide) (by decide)).trans eb36
    have u50 : (I43 b36 9).toInt = (I b36 9).toInt := by rw [f_I43.2.2.1 b36 8 9 kb36 (by decide) (by decide)]
    have t51 : (0 : Int32).toInt = 0 := rfl
    have t52 : (1 : Int32).toInt = 1 := rfl
    exact ⟨(24 - (1 : Int32).toInt).toNat + 1, l_X11_jam_L22 w_I v0 kv0   hQ   _ (0 : Int32) (1 : Int32) Z45 I43 L44 w_I43 bd_Z45 q_I43 cp_Z45   (by omega)  (by omega)⟩
  · skip
    first | (have t53 : (I b36 9).toInt = (0) := (i_eq rfl (show (0 : Int32).toInt = 0 from rfl)).mp c40) | (have t53 : (I b36 9).toInt = (0 : Int32).toInt := (i_eq rfl rfl).mp c40) | skip
    have t54 : (-2 : Int32).toInt = -2 := rfl
    exact hQ (-2 : Int32) Z I L w_I bd_Z q_I cp_Z 
end
section
def Ws_X11_climbAllTo : List (Nat × Nat) := [(7, 1), (7, 2), (7, 3), (7, 4), (7, 5), (7, 8), (7, 9)]
set_option maxHeartbeats 4000000 in
set_option maxRecDepth 100000 in
theorem l_X11_climbAllTo_L2 {B : Nat × Nat} {T : Nat} {Z0 : jZ} {I0 : jI} {Q : jZ → jI → jL → Prop} (w0 : WD Z0 I0) (v0 : Nat) (v1 : Int32) (kv0 : jk Z0 v0 11) (uA : Nat) (huA : jr Z0 v0 3 = some uA) (p0 : 0 ≤ v1.toInt ∧ v1.toInt ≤ 23) (p1 : RB Z0 I0 uA (I0 v0 4).toInt 0 0 (1 + 4096 * v1.toInt)) (hQ : ∀  (Z' : jZ) (I' : jI) (L' : jL), WD Z' I' → BUD B Z' T → FR Ws_X11_climbAllTo Z0 I0 Z' I' → CP Z0 Z' → RB Z' I' uA (I0 v0 4).toInt 0 0 (1 + 4096 * (v1.toInt + 1)) → Q Z' I' L') : ∀ (n : Nat) (v2 : Int32) (Z : jZ) (I : jI) (L : jL), WD Z I → BUD B Z T → FR Ws_X11_climbAllTo Z0 I0 Z I → CP Z0 Z →  ((0 ≤ v2.toInt ∧ v2.toInt ≤ 6) ∧ (I v0 4).toInt = (I0 v0 4).toInt ∧ RB Z I uA (I0 v0 4).toInt v2.toNatClampNeg (1 + 4096 * (v1.toInt + 1)) (1 + 4096 * v1.toInt)) → 6 - v2.toInt < (n : Int) → f_X11_climbAllTo_L2 B  Q n v0 v1 v2 Z I L := by
  intro n
  induction n with
  | zero =>
    intro v2 Z I L w_I bd_Z q_I cp_Z  li  me
    exfalso
    omega
  | succ n ih =>
    intro v2 Z I L w_I bd_Z q_I cp_Z  li  me
    unfold f_X11_climbAllTo_L2
    have rv2 := i_rng v2
    obtain ⟨li0, li1, li2⟩ := li
    have kv0_0 := kv0
    have kv0 := (q_I.1 _ _ kv0).1
    have huA_1 : jr Z v0 3 = some uA := (q_I.2.1 v0 11 3 kv0_0 (by decide) (by decide)).trans huA
    have kuA : jk Z uA 18 := by obtain ⟨b9, e9, k9, -⟩ := sh_f w_I.1 kv0 (j := 3) (k := 18) (m := 6) rfl; cases huA_1.symm.trans e9; exact k9
    have xq_I := q_I.1
    have t2 : 0 ≤ (I v0 4).toInt ∧ (I v0 4).toInt ≤ 6 := w_I.fld 11 4 kv0 (by decide)
    refine ⟨fun c3 => ?_, fun c3 => ?_⟩
    · skip
      first | (have t4 : (I v0 4).toInt ≤ v2.toInt := (i_le rfl rfl).mp c3) | (have t4 : (I v0 4).toInt ≤ v2.toInt := (i_le rfl rfl).mp c3) | skip
      exact hQ  Z I L w_I bd_Z q_I cp_Z (by have hh := i_nat (x := v2) rfl (by omega); exact RB.all li2 (by omega))
    · skip
      first | (have t5 : ¬ ((I v0 4).toInt ≤ v2.toInt) := (not_congr (i_le rfl rfl)).mp c3) | (have t5 : ¬ ((I v0 4).toInt ≤ v2.toInt) := (not_congr (i_le rfl rfl)).mp c3) | skip
      refine s_X11_find w_I v0 v2 kv0   (fun r6 p7 => ?_)
      refine ⟨fun c9 => ?_, fun b8 c9 => ?_⟩
      · skip
        unfold f_X11_climbAllTo_b28
        intro x10 ex10
        have rx10 := i_rng x10
        first | (have tx10 : x10.toInt = v2.toInt + (1) := by (rw [ex10]; exact (i_add rfl (show (1 : Int32).toInt = 1 from rfl) (by omega) (by omega)))) | skip
        exact ih x10 Z I L w_I bd_Z q_I cp_Z  (by refine ⟨by omega, by omega, ?_⟩; rw [i_succ (by omega) tx10]; exact RB.skip li2 (p7.2 c9 (by omega) (by omega) uA huA_1))  (by omega)
      · skip
        have kb8 : jk Z b8 5 := by first | exact p7 b8 c9 | exact (p7 b8 c9).1 | exact (p7.1 b8 c9).1
        intro b11 eb11
        obtain ⟨x12, ex12, kb11⟩ := sh_o w_I.1 kb8 (j := 8) (k := 6) rfl
        cases eb11.symm.trans ex12
        obtain ⟨b13, eb13, kb13⟩ := sh_o w_I.1 kb11 (j := 9) (k := 7) rfl
        have hf := li2 v2.toNatClampNeg b8 b11 b13 (by have := i_nat (x := v2) rfl (by omega); omega) ((p7.1 b8 c9).2.2.2 uA huA_1) eb11 eb13
        rw [if_neg (Nat.lt_irrefl _)] at hf
        refine s_X6_raiseOne w_I bd_Z b11 v1 kb11 b13 eb13 (by omega) (fun  Z17 I15 L16 w_I15 bd_Z17 f_I15 c_Z17 p14 => ?_)
        have q_I15 : FR Ws_X11_climbAllTo Z0 I0 Z17 I15 := q_I.trans w0.1 w0.2.1 (f_I15.mono (by decide))
        have cp_Z17 : CP Z0 Z17 := cp_Z.trans q_I.1 c_Z17
        have x_Z17 := f_I15.1
        have k18 := (f_I15.1 _ _ kv0).1
        have k19 := (f_I15.1 _ _ kb8).1
        have k20 := (f_I15.1 _ _ kuA).1
        have k21 := (f_I15.1 _ _ kv0).1
        have e22 := (f_I15.2.1 v0 11 3 kv0 (by decide) (by decide)).trans huA_1
        have k23 := (f_I15.1 _ _ kb11).1
        have k24 := (f_I15.1 _ _ kb8).1
        have e25 := (f_I15.2.1 b8 5 8 kb8 (by decide) (by decide)).trans eb11
        have k26 := (f_I15.1 _ _ kb13).1
        have k27 := (f_I15.1 _ _ kb11).1
        have e28 := (f_I15.2.1 b11 6 9 kb11 (by decide) (by decide)).trans eb13
        have u29 : (I15 v0 4).toInt = (I v0 4).toInt := by rw [f_I15.2.2.1 v0 11 4 kv0 (by decide) (by decide)]
        obtain ⟨p14_0, p14_1⟩ := p14
        unfold f_X11_climbAllTo_b28
        intro x30 ex30
        have rx30 := i_rng x30
        first | (have tx30 : x30.toInt = v2.toInt + (1) := by (rw [ex30]; exact (i_add rfl (show (1 : Int32).toInt = 1 from rfl) (by omega) (by omega)))) | skip
        exact ih x30 Z17 I15 L16 w_I15 bd_Z17 q_I15 cp_Z17  (by refine ⟨by omega, by omega, ?_⟩; rw [i_succ (by omega) tx30]; obtain ⟨u, eu, ku⟩ := sh_o w_I.1 kb11 (j := 10) (k := 7) rfl; exact RB.step w_I kuA f_I15 ((p7.1 b8 c9).2.2.2 uA huA_1) eb11 eb13 eu (RO2.a p14_1) (by omega) li2)  (by omega)
set_option maxHeartbeats 4000000 in
set_option maxRecDepth 100000 in
theorem s_X11_climbAllTo {B : Nat × Nat} {T : Nat} {Z : jZ} {I : jI} {L : jL} (w_I : WD Z I) (bd_Z : BUD B Z T) (v0 : Nat) (v1 : Int32) (kv0 : jk Z v0 11) (uA : Nat) (huA : jr Z v0 3 = some uA) (p0 : 0 ≤ v1.toInt ∧ v1.toInt ≤ 23) (p1 : RB Z I uA (I v0 4).toInt 0 0 (1 + 4096 * v1.toInt)) {Q : jZ → jI → jL → Prop} (hQ : ∀  (Z' : jZ) (I' : jI) (L' : jL), WD Z' I' → BUD B Z' T → FR Ws_X11_climbAllTo Z I Z' I' → CP Z Z' → RB Z' I' uA (I v0 4).toInt 0 0 (1 + 4096 * (v1.toInt + 1)) → Q Z' I' L') : f_X11_climbAllTo B v0 v1 Z I L Q := by
  unfold f_X11_climbAllTo
  have q_I : FR Ws_X11_climbAllTo Z I Z I := FR.rf
  have cp_Z : CP Z Z := CP.rf
  have rv1 := i_rng v1
  have kuA : jk Z uA 18 := by obtain ⟨b9, e9, k9, -⟩ := sh_f w_I.1 kv0 (j := 3) (k := 18) (m := 6) rfl; cases huA.symm.trans e9; exact k9
  have t31 : (0 : Int32).toInt = 0 := rfl
  exact ⟨(6 - (0 : Int32).toInt).toNat + 1, l_X11_climbAllTo_L2 w_I v0 v1 kv0 uA huA p0 p1   hQ  _ (0 : Int32) Z I L w_I bd_Z q_I cp_Z  (by refine ⟨by omega, rfl, ?_⟩; exact RB.start p1)  (by omega)⟩
def Ws_X11_haggle : List (Nat × Nat) := [(3, 2), (6, 4), (6, 5), (6, 6), (6, 7), (6, 8), (6, 12), (6, 13), (6, 14), (6, 15), (7, 1), (7, 2), (7, 3), (7, 4), (7, 5), (7, 8), (7, 9), (8, 2), (8, 8), (11, 13), (11, 14)]
set_option maxHeartbeats 4000000 in
set_option maxRecDepth 100000 in
theorem l_X11_haggle_L53 {B : Nat × Nat} {T : Nat} {Z0 : jZ} {I0 : jI} {Q : Int32 → jZ → jI → jL → Prop} (w0 : WD Z0 I0) (v0 : Nat) (kv0 : jk Z0 v0 11) (uA : Nat) (huA : jr Z0 v0 3 = some uA) (hQ : ∀ (r : Int32) (Z' : jZ) (I' : jI) (L' : jL), WD Z' I' → BUD B Z' T → FR Ws_X11_haggle Z0 I0 Z' I' → CP Z0 Z' → Q r Z' I' L') : ∀ (n : Nat) (v1 : Int32) (v2 : Int32) (Z : jZ) (I : jI) (L : jL), WD Z I → BUD B Z T → FR Ws_X11_haggle Z0 I0 Z I → CP Z0 Z →  ((0 ≤ v2.toInt ∧ v2.toInt ≤ 24) ∧ (I v0 4).toInt = (I0 v0 4).toInt ∧ RB Z I uA (I0 v0 4).toInt 0 0 (1 + 4096 * v2.toInt) ∧ (v1.toInt = 0 ∨ v1.toInt = 1)) → 24 - v2.toInt < (n : Int) → f_X11_haggle_L53 B  Q n v0 v1 v2 Z I L := by
  intro n
  induction n with
  | zero =>
    intro v1 v2 Z I L w_I bd_Z q_I cp_Z  li  me
    exfalso
    omega
  | succ n ih =>
    intro v1 v2 Z I L w_I bd_Z q_I cp_Z  li  me
    unfold f_X11_haggle_L53
    have rv1 := i_rng v1
    have rv2 := i_rng v2
    obtain ⟨li0, li1, li2, li3⟩ := li
    have kv0_0 := kv0
    have kv0 := (q_I.1 _ _ kv0).1
    have huA_1 : jr Z v0 3 = some uA := (q_I.2.1 v0 11 3 kv0_0 (by decide) (by decide)).trans huA
    have kuA : jk Z uA 18 := by obtain ⟨b9, e9, k9, -⟩ := sh_f w_I.1 kv0 (j := 3) (k := 18) (m := 6) rfl; cases huA_1.symm.trans e9; exact k9
    have xq_I := q_I.1
    intro b1 eb1
    obtain ⟨x2, ex2, kb1⟩ := sh_o w_I.1 kv0 (j := 2) (k := 8) rfl
    cases eb1.symm.trans ex2
    have t4 : 0 ≤ (I b1 9).toInt ∧ (I b1 9).toInt ≤ 24 := w_I.fld 8 9 kb1 (by decide)
    refine ⟨fun c5 => ?_, fun c5 => ?_⟩
    · skip
      first | (have t6 : (I b1 9).toInt ≤ v2.toInt := (i_le rfl rfl).mp c5) | (have t6 : (I b1 9).toInt ≤ v2.toInt := (i_le rfl rfl).mp c5) | skip
      refine ⟨by first | exact i_01 rfl (by omega) | omega, ?_⟩
      exact hQ v1 Z I L w_I bd_Z q_I cp_Z 
    · skip
      first | (have t7 : ¬ ((I b1 9).toInt ≤ v2.toInt) := (not_congr (i_le rfl rfl)).mp c5) | (have t7 : ¬ ((I b1 9).toInt ≤ v2.toInt) := (not_congr (i_le rfl rfl)).mp c5) | skip
      refine s_X11_climbAllTo w_I bd_Z v0 v2 kv0 uA huA_1 (by omega) (by rw [li1]; exact li2) (fun  Z11 I9 L10 w_I9 bd_Z11 f_I9 c_Z11 p8 => ?_)
      have q_I9 : FR Ws_X11_haggle Z0 I0 Z11 I9 := q_I.trans w0.1 w0.2.1 (f_I9.mono (by decide))
      have cp_Z11 : CP Z0 Z11 := cp_Z.trans q_I.1 c_Z11
      have x_Z11 := f_I9.1
      have k12 := (f_I9.1 _ _ kv0).1
      have k13 := (f_I9.1 _ _ kuA).1
      have k14 := (f_I9.1 _ _ kv0).1
      have e15 := (f_I9.2.1 v0 11 3 kv0 (by decide) (by decide)).trans huA_1
      have k16 := (f_I9.1 _ _ kb1).1
      have k17 := (f_I9.1 _ _ kv0).1
      have e18 := (f_I9.2.1 v0 11 2 kv0 (by decide) (by decide)).trans eb1
      have u19 : (I9 b1 9).toInt = (I b1 9).toInt := by rw [f_I9.2.2.1 b1 8 9 kb1 (by decide) (by decide)]
      refine s_X11_weigh w_I9 v0 v2 k12  (by omega) (fun  I20 L21 w_I20 f_I20  => ?_)
      have q_I20 : FR Ws_X11_haggle Z0 I0 Z11 I20 := q_I9.trans w0.1 w0.2.1 (f_I20.mono (by decide))
      have u22 : (I20 b1 9).toInt = (I9 b1 9).toInt := by rw [f_I20.2.2.1 b1 8 9 k16 (by decide) (by decide)]
      refine s_X11_mostPaid w_I20 v0 k12   (fun r23 p24 => ?_)
      have rr23 := i_rng r23
      intro b25 eb25
      obtain rfl : b1 = b25 := Option.some.inj (e18.symm.trans eb25)
      intro b26 eb26
      obtain ⟨x27, ex27, kb26, lb26⟩ := sh_f w_I20.1 k16 (j := 2) (k := 14) (m := 24) rfl
      cases eb26.symm.trans ex27
      have o28 : vp_in v2 24 := vi_of rfl (by omega) (by omega)
      refine ⟨o28, ?_⟩
      have t29 : 0 ≤ (I20 b26 v2.toNatClampNeg).toInt ∧ (I20 b26 v2.toNatClampNeg).toInt ≤ 20 := w_I20.arr 8 2 k16 eb26 kb26 rfl rfl _
      intro x30 ex30
      have rx30 := i_rng x30
      first | (have tx30 : x30.toInt = (I20 b26 v2.toNatClampNeg).toInt := by (rw [ex30]; exact rfl)) | (have tx30 : x30.toInt = (I20 b26 v2.toNatClampNeg).toInt := by rw [ex30])
      refine s_X11_isAsked w_I20 x30    (fun r31 p32 => ?_)
      have rr31 := i_rng r31
      refine ⟨fun c33 => ?_, fun c33 => ?_⟩
      · skip
        first | (have t34 : r31.toInt = (0) := (i_eq rfl (show (0 : Int32).toInt = 0 from rfl)).mp c33) | (have t34 : r31.toInt = (0 : Int32).toInt := (i_eq rfl rfl).mp c33) | skip
        unfold f_X11_haggle_b131
        intro x35 ex35
        have rx35 := i_rng x35
        first | (have tx35 : x35.toInt = v2.toInt + (1) := by (rw [ex35]; exact (i_add rfl (show (1 : Int32).toInt = 1 from rfl) (by omega) (by omega)))) | skip
        exact ih v1 x35 Z11 I20 L21 w_I20 bd_Z11 q_I20 cp_Z11  (by refine ⟨by omega, by rw [q_I20.2.2.1 v0 11 4 kv0_0 (by decide) (by decide)], ?_, by omega⟩; rw [show 1 + 4096 * x35.toInt = 1 + 4096 * (v2.toInt + 1) by omega, ← li1]; exact RB.fr w_I9 k13 f_I20 (by decide) p8)  (by omega)
      · skip
        first | (have t36 : ¬ (r31.toInt = (0)) := (not_congr (i_eq rfl (show (0 : Int32).toInt = 0 from rfl))).mp c33) | (have t36 : ¬ (r31.toInt = (0 : Int32).toInt) := (not_congr (i_eq rfl rfl)).mp c33) | skip
        intro b37 eb37
        obtain ⟨x38, ex38, kb37, lb37⟩ := sh_f w_I20.1 k12 (j := 13) (k := 14) (m := 21) rfl
        cases eb37.symm.trans ex38
        have o39 : vp_in r23 21 := vi_of rfl (by omega) (by omega)
        refine ⟨o39, ?_⟩
        intro b40 eb40
        obtain rfl : b37 = b40 := Option.some.inj (eb37.symm.trans eb40)
        have o41 : vp_in x30 21 := vi_of rfl (by omega) (by omega)
        refine ⟨o41, ?_⟩
        refine ⟨fun c42 => ?_, fun c42 => ?_⟩
        · skip
          first | (have t43 : (I20 b37 r23.toNatClampNeg).toInt ≤ (I20 b37 x30.toNatClampNeg).toInt := (i_le rfl rfl).mp c42) | (have t43 : (I20 b37 r23.toNatClampNeg).toInt ≤ (I20 b37 x30.toNatClampNeg).toInt := (i_le rfl rfl).mp c42) | skip
          unfold f_X11_haggle_b131
          intro x44 ex44
          have rx44 := i_rng x44
          first | (have tx44 : x44.toInt = v2.toInt + (1) := by (rw [ex44]; exact (i_add rfl (show (1 : Int32).toInt = 1 from rfl) (by omega) (by omega)))) | skip
          exact ih v1 x44 Z11 I20 L21 w_I20 bd_Z11 q_I20 cp_Z11  (by refine ⟨by omega, by rw [q_I20.2.2.1 v0 11 4 kv0_0 (by decide) (by decide)], ?_, by omega⟩; rw [show 1 + 4096 * x44.toInt = 1 + 4096 * (v2.toInt + 1) by omega, ← li1]; exact RB.fr w_I9 k13 f_I20 (by decide) p8)  (by omega)
        · skip
          first | (have t45 : ¬ ((I20 b37 r23.toNatClampNeg).toInt ≤ (I20 b37 x30.toNatClampNeg).toInt) := (not_congr (i_le rfl rfl)).mp c42) | (have t45 : ¬ ((I20 b37 r23.toNatClampNeg).toInt ≤ (I20 b37 x30.toNatClampNeg).toInt) := (not_congr (i_le rfl rfl)).mp c42) | skip
          intro b46 eb46
          obtain rfl : b1 = b46 := Option.some.inj (e18.symm.trans eb46)
          intro b47 eb47
          obtain rfl : b26 = b47 := Option.some.inj (eb26.symm.trans eb47)
          have o48 : vp_in v2 24 := vi_of rfl (by omega) (by omega)
          refine ⟨o48, ?_⟩
          intro I49 eI49
          have w_I49 : WD Z11 I49 := by rw [eI49]; exact WD_putA w_I20 8 2 k16 eb26 kb26 rfl rfl (by decide) (by constructor <;> omega)
          have f_I49 : FR [(8, 2)] Z11 I20 Z11 I49 := by rw [eI49]; exact FR_upA w_I20.2.1 k16 eb26 kb26 rfl rfl List.mem_cons_self
          have q_I49 : FR Ws_X11_haggle Z0 I0 Z11 I49 := q_I20.trans w0.1 w0.2.1 (f_I49.mono (by decide))
          have u50 : (I49 b1 9).toInt = (I20 b1 9).toInt := by rw [f_I49.2.2.1 b1 8 9 k16 (by decide) (by decide)]
          refine s_X11_measureAllAt w_I49 v0 v2 k12  (by omega) (fun  I51 L52 w_I51 f_I51  => ?_)
          have q_I51 : FR Ws_X11_haggle Z0 I0 Z11 I51 := q_I49.trans w0.1 w0.2.1 (f_I51.mono (by decide))
          have u53 : (I51 b1 9).toInt = (I49 b1 9).toInt := by rw [f_I51.2.2.1 b1 8 9 k16 (by decide) (by decide)]
          unfold f_X11_haggle_b131
          intro x54 ex54
          have rx54 := i_rng x54
          first | (have tx54 : x54.toInt = v2.toInt + (1) := by (rw [ex54]; exact (i_add rfl (show (1 : Int32).toInt = 1 from rfl) (by omega) (by omega)))) | skip
          have t55 : (1 : Int32).toInt = 1 := rfl
          exact ih (1 : Int32) x54 Z11 I51 L52 w_I51 bd_Z11 q_I51 cp_Z11  (by refine ⟨by omega, by rw [q_I51.2.2.1 v0 11 4 kv0_0 (by decide) (by decide)], ?_, by omega⟩; rw [show 1 + 4096 * x54.toInt = 1 + 4096 * (v2.toInt + 1) by omega, ← li1]; exact RB.fr w_I49 k13 f_I51 (by decide) (RB.fr w_I20 k13 f_I49 (by decide) (RB.fr w_I9 k13 f_I20 (by decide) p8)))  (by omega)
set_option maxHeartbeats 4000000 in
set_option maxRecDepth 100000 in
theorem l_X11_haggle_L4 {B : Nat × Nat} {T : Nat} {Z0 : jZ} {I0 : jI} {Q : Int32 → jZ → jI → jL → Prop} (w0 : WD Z0 I0) (v0 : Nat) (kv0 : jk Z0 v0 11) (uA : Nat) (huA : jr Z0 v0 3 = some uA) (v1 : Int32) (hQ : ∀ (r : Int32) (Z' : jZ) (I' : jI) (L' : jL), WD Z' I' → BUD B Z' T → FR Ws_X11_haggle Z0 I0 Z' I' → CP Z0 Z' → Q r Z' I' L') : ∀ (n : Nat) (v2 : Int32) (Z : jZ) (I : jI) (L : jL), WD Z I → BUD B Z T → FR Ws_X11_haggle Z0 I0 Z I → CP Z0 Z →  ((0 ≤ v2.toInt ∧ v2.toInt ≤ 6) ∧ (I v0 4).toInt = (I0 v0 4).toInt ∧ RB Z I uA (I0 v0 4).toInt v2.toNatClampNeg 1 1048576 ∧ (v1.toInt = 0 ∨ v1.toInt = 1)) → 6 - v2.toInt < (n : Int) → f_X11_haggle_L4 B  Q n v0 v1 v2 Z I L := by
  intro n
  induction n with
  | zero =>
    intro v2 Z I L w_I bd_Z q_I cp_Z  li  me
    exfalso
    omega
  | succ n ih =>
    intro v2 Z I L w_I bd_Z q_I cp_Z  li  me
    unfold f_X11_haggle_L4
    have rv2 := i_rng v2
    obtain ⟨li0, li1, li2, li3⟩ := li
    have kv0_0 := kv0
    have kv0 := (q_I.1 _ _ kv0).1
    have huA_1 : jr Z v0 3 = some uA := (q_I.2.1 v0 11 3 kv0_0 (by decide) (by decide)).trans huA
    have kuA : jk Z uA 18 := by obtain ⟨b9, e9, k9, -⟩ := sh_f w_I.1 kv0 (j := 3) (k := 18) (m := 6) rfl; cases huA_1.symm.trans e9; exact k9
    have xq_I := q_I.1
    have t57 : 0 ≤ (I v0 4).toInt ∧ (I v0 4).toInt ≤ 6 := w_I.fld 11 4 kv0 (by decide)
    refine ⟨fun c58 => ?_, fun c58 => ?_⟩
    · skip
      first | (have t59 : (I v0 4).toInt ≤ v2.toInt := (i_le rfl rfl).mp c58) | (have t59 : (I v0 4).toInt ≤ v2.toInt := (i_le rfl rfl).mp c58) | skip
      have t60 : (0 : Int32).toInt = 0 := rfl
      exact ⟨(24 - (0 : Int32).toInt).toNat + 1, l_X11_haggle_L53 w0 v0 kv0_0 uA huA   hQ  _ v1 (0 : Int32) Z I L w_I bd_Z q_I cp_Z  (by have hh := i_nat (x := v2) rfl (by omega); refine ⟨by omega, by omega, ?_, by omega⟩; exact RB.all li2 (by omega))  (by omega)⟩
    · skip
      first | (have t61 : ¬ ((I v0 4).toInt ≤ v2.toInt) := (not_congr (i_le rfl rfl)).mp c58) | (have t61 : ¬ ((I v0 4).toInt ≤ v2.toInt) := (not_congr (i_le rfl rfl)).mp c58) | skip
      refine s_X11_find w_I v0 v2 kv0   (fun r62 p63 => ?_)
      refine ⟨fun c65 => ?_, fun b64 c65 => ?_⟩
      · skip
        unfold f_X11_haggle_b45
        intro x66 ex66
        have rx66 := i_rng x66
        first | (have tx66 : x66.toInt = v2.toInt + (1) := by (rw [ex66]; exact (i_add rfl (show (1 : Int32).toInt = 1 from rfl) (by omega) (by omega)))) | skip
        exact ih x66 Z I L w_I bd_Z q_I cp_Z  (by refine ⟨by omega, by omega, ?_, by omega⟩; rw [i_succ (by omega) tx66]; exact RB.skip li2 (p63.2 c65 (by omega) (by omega) uA huA_1))  (by omega)
      · skip
        have kb64 : jk Z b64 5 := by first | exact p63 b64 c65 | exact (p63 b64 c65).1 | exact (p63.1 b64 c65).1
        intro b67 eb67
        obtain ⟨x68, ex68, kb67⟩ := sh_o w_I.1 kb64 (j := 8) (k := 6) rfl
        cases eb67.symm.trans ex68
        have t69 : (-1 : Int32).toInt = -1 := rfl
        refine s_X6_lay w_I b67 (I b64 3) (I b64 4) (-1 : Int32) kb67   (fun  I70 L71 w_I70 f_I70  => ?_)
        have q_I70 : FR Ws_X11_haggle Z0 I0 Z I70 := q_I.trans w0.1 w0.2.1 (f_I70.mono (by decide))
        have u72 : (I70 v0 4).toInt = (I v0 4).toInt := by rw [f_I70.2.2.1 v0 11 4 kv0 (by decide) (by decide)]
        have u73 : (I70 b64 3).toInt = (I b64 3).toInt := by rw [f_I70.2.2.1 b64 5 3 kb64 (by decide) (by decide)]
        have u74 : (I70 b64 4).toInt = (I b64 4).toInt := by rw [f_I70.2.2.1 b64 5 4 kb64 (by decide) (by decide)]
        intro b75 eb75
        obtain rfl : b67 = b75 := Option.some.inj (eb67.symm.trans eb75)
        obtain ⟨b76, eb76, kb76⟩ := sh_o w_I70.1 kb67 (j := 9) (k := 7) rfl
        obtain ⟨b77, eb77, kb77⟩ := sh_o w_I70.1 kb67 (j := 10) (k := 7) rfl
        refine s_X6_survey w_I70 bd_Z b67 kb67 b76 eb76 b77 eb77  (fun  Z81 I79 L80 w_I79 bd_Z81 f_I79 c_Z81 p78 => ?_)
        have q_I79 : FR Ws_X11_haggle Z0 I0 Z81 I79 := q_I70.trans w0.1 w0.2.1 (f_I79.mono (by decide))
        have cp_Z81 : CP Z0 Z81 := cp_Z.trans q_I70.1 c_Z81
        have x_Z81 := f_I79.1
        have k82 := (f_I79.1 _ _ kv0).1
        have k83 := (f_I79.1 _ _ kb64).1
        have k84 := (f_I79.1 _ _ kuA).1
        have k85 := (f_I79.1 _ _ kv0).1
        have e86 := (f_I79.2.1 v0 11 3 kv0 (by decide) (by decide)).trans huA_1
        have k87 := (f_I79.1 _ _ kb67).1
        have k88 := (f_I79.1 _ _ kb64).1
        have e89 := (f_I79.2.1 b64 5 8 kb64 (by decide) (by decide)).trans eb67
        have k90 := (f_I79.1 _ _ kb76).1
        have k91 := (f_I79.1 _ _ kb67).1
        have e92 := (f_I79.2.1 b67 6 9 kb67 (by decide) (by decide)).trans eb76
        have k93 := (f_I79.1 _ _ kb77).1
        have k94 := (f_I79.1 _ _ kb67).1
        have e95 := (f_I79.2.1 b67 6 10 kb67 (by decide) (by decide)).trans eb77
        have u96 : (I79 v0 4).toInt = (I70 v0 4).toInt := by rw [f_I79.2.2.1 v0 11 4 kv0 (by decide) (by decide)]
        have u97 : (I79 b64 3).toInt = (I70 b64 3).toInt := by rw [f_I79.2.2.1 b64 5 3 kb64 (by decide) (by decide)]
        have u98 : (I79 b64 4).toInt = (I70 b64 4).toInt := by rw [f_I79.2.2.1 b64 5 4 kb64 (by decide) (by decide)]
        obtain ⟨p78_0, p78_1⟩ := p78
        unfold f_X11_haggle_b45
        intro x99 ex99
        have rx99 := i_rng x99
        first | (have tx99 : x99.toInt = v2.toInt + (1) := by (rw [ex99]; exact (i_add rfl (show (1 : Int32).toInt = 1 from rfl) (by omega) (by omega)))) | skip
        exact ih x99 Z81 I79 L80 w_I79 bd_Z81 q_I79 cp_Z81  (by refine ⟨by omega, by omega, ?_, by omega⟩; rw [i_succ (by omega) tx99]; exact RB.step w_I70 kuA f_I79 ((p63.1 b64 c65).2.2.2 uA huA_1) eb67 eb76 eb77 p78_1 (by omega) (RB.fr w_I kuA f_I70 (by decide) li2))  (by omega)
set_option maxHeartbeats 4000000 in
set_option maxRecDepth 100000 in
theorem s_X11_haggle {B : Nat × Nat} {T : Nat} {Z : jZ} {I : jI} {L : jL} (w_I : WD Z I) (bd_Z : BUD B Z T) (v0 : Nat) (kv0 : jk Z v0 11) (uA : Nat) (huA : jr Z v0 3 = some uA) {Q : Int32 → jZ → jI → jL → Prop} (hQ : ∀ (r : Int32) (Z' : jZ) (I' : jI) (L' : jL), WD Z' I' → BUD B Z' T → FR Ws_X11_haggle Z I Z' I' → CP Z Z' → Q r Z' I' L') : f_X11_haggle B v0 Z I L Q := by
  unfold f_X11_haggle
  have q_I : FR Ws_X11_haggle Z I Z I := FR.rf
  have cp_Z : CP Z Z := CP.rf
  have kuA : jk Z uA 18 := by obtain ⟨b9, e9, k9, -⟩ := sh_f w_I.1 kv0 (j := 3) (k := 18) (m := 6) rfl; cases huA.symm.trans e9; exact k9
  have t100 : (0 : Int32).toInt = 0 := rfl
  have t101 : (0 : Int32).toInt = 0 := rfl
  exact ⟨(6 - (0 : Int32).toInt).toNat + 1, l_X11_haggle_L4 w_I v0 kv0 uA huA (0 : Int32)  hQ  _ (0 : Int32) Z I L w_I bd_Z q_I cp_Z  (by refine ⟨by omega, rfl, RB.of w_I kuA, by omega⟩)  (by omega)⟩
end
section
def Ws_X11_market : List (Nat × Nat) := [(3, 2), (6, 4), (6, 5), (6, 6), (6, 7), (6, 8), (6, 12), (6, 13), (6, 14), (6, 15), (7, 1), (7, 2), (7, 3), (7, 4), (7, 5), (7, 8), (7, 9), (8, 2), (8, 8), (11, 13), (11, 14), (11, 16)]
set_option maxHeartbeats 4000000 in
set_option maxRecDepth 100000 in
theorem l_X11_market_L29 {B : Nat × Nat} {T : Nat} {Z0 : jZ} {I0 : jI} {Q : Int32 → jZ → jI → jL → Prop} (w0 : WD Z0 I0) (v0 : Nat) (v1 : Int32) (kv0 : jk Z0 v0 11) (hQ : ∀ (r : Int32) (Z' : jZ) (I' : jI) (L' : jL), WD Z' I' → BUD B Z' T → FR Ws_X11_market Z0 I0 Z' I' → CP Z0 Z' → Q r Z' I' L') : ∀ (n : Nat) (v2 : Int32) (v3 : Int32) (v4 : Int32) (Z : jZ) (I : jI) (L : jL), WD Z I → BUD B Z T → FR Ws_X11_market Z0 I0 Z I → CP Z0 Z →   (0 ≤ v4.toInt ∧ v4.toInt ≤ 3 ∧ v1.toInt ≤ 3) → 3 - v4.toInt < (n : Int) → f_X11_market_L29 B  Q n v0 v1 v2 v3 v4 Z I L := by
  intro n
  induction n with
  | zero =>
    intro v2 v3 v4 Z I L w_I bd_Z q_I cp_Z   li  me
    exfalso
    omega
  | succ n ih =>
    intro v2 v3 v4 Z I L w_I bd_Z q_I cp_Z   li  me
    unfold f_X11_market_L29
    have rv2 := i_rng v2
    have rv3 := i_rng v3
    have rv4 := i_rng v4
    have rv1 := i_rng v1
    have kv0_0 := kv0
    have kv0 := (q_I.1 _ _ kv0).1
    have xq_I := q_I.1
    refine ⟨fun c1 => ?_, fun c1 => ?_⟩
    · skip
      first | (have t2 : v1.toInt ≤ v4.toInt := (i_le rfl rfl).mp c1) | (have t2 : v1.toInt ≤ v4.toInt := (i_le rfl rfl).mp c1) | skip
      unfold f_X11_market_b70
      refine ⟨fun c3 => ?_, fun c3 => ?_⟩
      · skip
        first | (have t4 : v3.toInt = (0) := (i_eq rfl (show (0 : Int32).toInt = 0 from rfl)).mp c3) | (have t4 : v3.toInt = (0 : Int32).toInt := (i_eq rfl rfl).mp c3) | skip
        unfold f_X11_market_b80
        intro b5 eb5
        obtain ⟨x6, ex6, kb5⟩ := sh_o w_I.1 kv0 (j := 2) (k := 8) rfl
        cases eb5.symm.trans ex6
        refine s_X8_sumOfAsks w_I b5 kb5   (fun r7  => ?_)
        have rr7 := i_rng r7
        refine s_X11_tellTwo w_I v0 (0 : Int64) (r7.toInt64) kv0   (fun  I8 L9 w_I8 f_I8  => ?_)
        have q_I8 : FR Ws_X11_market Z0 I0 Z I8 := q_I.trans w0.1 w0.2.1 (f_I8.mono (by decide))
        exact hQ v2 Z I8 L9 w_I8 bd_Z q_I8 cp_Z 
      · skip
        first | (have t10 : ¬ (v3.toInt = (0)) := (not_congr (i_eq rfl (show (0 : Int32).toInt = 0 from rfl))).mp c3) | (have t10 : ¬ (v3.toInt = (0 : Int32).toInt) := (not_congr (i_eq rfl rfl)).mp c3) | skip
        unfold f_X11_market_b80
        intro b11 eb11
        obtain ⟨x12, ex12, kb11⟩ := sh_o w_I.1 kv0 (j := 2) (k := 8) rfl
        cases eb11.symm.trans ex12
        refine s_X8_sumOfAsks w_I b11 kb11   (fun r13  => ?_)
        have rr13 := i_rng r13
        refine s_X11_tellTwo w_I v0 (1 : Int64) (r13.toInt64) kv0   (fun  I14 L15 w_I14 f_I14  => ?_)
        have q_I14 : FR Ws_X11_market Z0 I0 Z I14 := q_I.trans w0.1 w0.2.1 (f_I14.mono (by decide))
        exact hQ v2 Z I14 L15 w_I14 bd_Z q_I14 cp_Z 
    · skip
      first | (have t16 : ¬ (v1.toInt ≤ v4.toInt) := (not_congr (i_le rfl rfl)).mp c1) | (have t16 : ¬ (v1.toInt ≤ v4.toInt) := (not_congr (i_le rfl rfl)).mp c1) | skip
      refine ⟨fun c17 => ?_, fun c17 => ?_⟩
      · skip
        first | (have t18 : ¬ (v3.toInt = (0)) := (not_congr (i_eq rfl (show (0 : Int32).toInt = 0 from rfl))).mp c17) | (have t18 : ¬ (v3.toInt = (0 : Int32).toInt) := (not_congr (i_eq rfl rfl)).mp c17) | skip
        unfold f_X11_market_b70
        refine ⟨fun c19 => ?_, fun c19 => ?_⟩
        · skip
          first | (have t20 : v3.toInt = (0) := (i_eq rfl (show (0 : Int32).toInt = 0 from rfl)).mp c19) | (have t20 : v3.toInt = (0 : Int32).toInt := (i_eq rfl rfl).mp c19) | skip
          unfold f_X11_market_b80
          intro b21 eb21
          obtain ⟨x22, ex22, kb21⟩ := sh_o w_I.1 kv0 (j := 2) (k := 8) rfl
          cases eb21.symm.trans ex22
          refine s_X8_sumOfAsks w_I b21 kb21   (fun r23  => ?_)
          have rr23 := i_rng r23
          refine s_X11_tellTwo w_I v0 (0 : Int64) (r23.toInt64) kv0   (fun  I24 L25 w_I24 f_I24  => ?_)
          have q_I24 : FR Ws_X11_market Z0 I0 Z I24 := q_I.trans w0.1 w0.2.1 (f_I24.mono (by decide))
          exact hQ v2 Z I24 L25 w_I24 bd_Z q_I24 cp_Z 
        · skip
          first | (have t26 : ¬ (v3.toInt = (0)) := (not_congr (i_eq rfl (show (0 : Int32).toInt = 0 from rfl))).mp c19) | (have t26 : ¬ (v3.toInt = (0 : Int32).toInt) := (not_congr (i_eq rfl rfl)).mp c19) | skip
          unfold f_X11_market_b80
          intro b27 eb27
          obtain ⟨x28, ex28, kb27⟩ := sh_o w_I.1 kv0 (j := 2) (k := 8) rfl
          cases eb27.symm.trans ex28
          refine s_X8_sumOfAsks w_I b27 kb27   (fun r29  => ?_)
          have rr29 := i_rng r29
          refine s_X11_tellTwo w_I v0 (1 : Int64) (r29.toInt64) kv0   (fun  I30 L31 w_I30 f_I30  => ?_)
          have q_I30 : FR Ws_X11_market Z0 I0 Z I30 := q_I.trans w0.1 w0.2.1 (f_I30.mono (by decide))
          exact hQ v2 Z I30 L31 w_I30 bd_Z q_I30 cp_Z 
      · skip
        first | (have t32 : v3.toInt = (0) := (i_eq rfl (show (0 : Int32).toInt = 0 from rfl)).mp c17) | (have t32 : v3.toInt = (0 : Int32).toInt := (i_eq rfl rfl).mp c17) | skip
        obtain ⟨b33, eb33, kb33, lb33⟩ := sh_f w_I.1 kv0 (j := 3) (k := 18) (m := 6) rfl
        refine s_X11_haggle w_I bd_Z v0 kv0 b33 eb33  (fun r34 Z37 I35 L36 w_I35 bd_Z37 f_I35 c_Z37  => ?_)
        have q_I35 : FR Ws_X11_market Z0 I0 Z37 I35 := q_I.trans w0.1 w0.2.1 (f_I35.mono (by decide))
        have cp_Z37 : CP Z0 Z37 := cp_Z.trans q_I.1 c_Z37
        have x_Z37 := f_I35.1
        have k38 := (f_I35.1 _ _ kv0).1
        have k39 := (f_I35.1 _ _ kb33).1
        have l40 := (f_I35.1 _ _ kb33).2.trans lb33
        have k41 := (f_I35.1 _ _ kv0).1
        have e42 := (f_I35.2.1 v0 11 3 kv0 (by decide) (by decide)).trans eb33
        have rr34 := i_rng r34
        refine ⟨fun c43 => ?_, fun c43 => ?_⟩
        · skip
          first | (have t44 : ¬ (r34.toInt = (0)) := (not_congr (i_eq rfl (show (0 : Int32).toInt = 0 from rfl))).mp c43) | (have t44 : ¬ (r34.toInt = (0 : Int32).toInt) := (not_congr (i_eq rfl rfl)).mp c43) | skip
          unfold f_X11_market_b51
          refine ⟨fun c45 => ?_, fun c45 => ?_⟩
          · skip
            first | (have t46 : (0) = (0) := (i_eq (show (0 : Int32).toInt = 0 from rfl) (show (0 : Int32).toInt = 0 from rfl)).mp c45) | (have t46 : (0 : Int32).toInt = (0 : Int32).toInt := (i_eq rfl rfl).mp c45) | skip
            unfold f_X11_market_b62
            intro x47 ex47
            have rx47 := i_rng x47
            first | (have tx47 : x47.toInt = (v2.toInt + (1)) := by (rw [ex47]; exact (i_add rfl (show (1 : Int32).toInt = 1 from rfl) (by omega) (by omega)))) | (have tx47 : x47.toInt = (v2 + (1 : Int32)).toInt := by rw [ex47])
            intro x48 ex48
            have rx48 := i_rng x48
            first | (have tx48 : x48.toInt = v4.toInt + (1) := by (rw [ex48]; exact (i_add rfl (show (1 : Int32).toInt = 1 from rfl) (by omega) (by omega)))) | skip
            have t49 : (0 : Int32).toInt = 0 := rfl
            exact ih x47 (0 : Int32) x48 Z37 I35 L36 w_I35 bd_Z37 q_I35 cp_Z37   (by omega)  (by omega)
          · skip
            first | (have t50 : ¬ ((0) = (0)) := (not_congr (i_eq (show (0 : Int32).toInt = 0 from rfl) (show (0 : Int32).toInt = 0 from rfl))).mp c45) | (have t50 : ¬ ((0 : Int32).toInt = (0 : Int32).toInt) := (not_congr (i_eq rfl rfl)).mp c45) | skip
            unfold f_X11_market_b62
            intro x51 ex51
            have rx51 := i_rng x51
            first | (have tx51 : x51.toInt = (v2.toInt + (0)) := by (rw [ex51]; exact (i_add rfl (show (0 : Int32).toInt = 0 from rfl) (by omega) (by omega)))) | (have tx51 : x51.toInt = (v2 + (0 : Int32)).toInt := by rw [ex51])
            intro x52 ex52
            have rx52 := i_rng x52
            first | (have tx52 : x52.toInt = v4.toInt + (1) := by (rw [ex52]; exact (i_add rfl (show (1 : Int32).toInt = 1 from rfl) (by omega) (by omega)))) | skip
            have t53 : (0 : Int32).toInt = 0 := rfl
            exact ih x51 (0 : Int32) x52 Z37 I35 L36 w_I35 bd_Z37 q_I35 cp_Z37   (by omega)  (by omega)
        · skip
          first | (have t54 : r34.toInt = (0) := (i_eq rfl (show (0 : Int32).toInt = 0 from rfl)).mp c43) | (have t54 : r34.toInt = (0 : Int32).toInt := (i_eq rfl rfl).mp c43) | skip
          unfold f_X11_market_b51
          refine ⟨fun c55 => ?_, fun c55 => ?_⟩
          · skip
            first | (have t56 : (1) = (0) := (i_eq (show (1 : Int32).toInt = 1 from rfl) (show (0 : Int32).toInt = 0 from rfl)).mp c55) | (have t56 : (1 : Int32).toInt = (0 : Int32).toInt := (i_eq rfl rfl).mp c55) | skip
            unfold f_X11_market_b62
            intro x57 ex57
            have rx57 := i_rng x57
            first | (have tx57 : x57.toInt = (v2.toInt + (1)) := by (rw [ex57]; exact (i_add rfl (show (1 : Int32).toInt = 1 from rfl) (by omega) (by omega)))) | (have tx57 : x57.toInt = (v2 + (1 : Int32)).toInt := by rw [ex57])
            intro x58 ex58
            have rx58 := i_rng x58
            first | (have tx58 : x58.toInt = v4.toInt + (1) := by (rw [ex58]; exact (i_add rfl (show (1 : Int32).toInt = 1 from rfl) (by omega) (by omega)))) | skip
            have t59 : (1 : Int32).toInt = 1 := rfl
            exact ih x57 (1 : Int32) x58 Z37 I35 L36 w_I35 bd_Z37 q_I35 cp_Z37   (by omega)  (by omega)
          · skip
            first | (have t60 : ¬ ((1) = (0)) := (not_congr (i_eq (show (1 : Int32).toInt = 1 from rfl) (show (0 : Int32).toInt = 0 from rfl))).mp c55) | (have t60 : ¬ ((1 : Int32).toInt = (0 : Int32).toInt) := (not_congr (i_eq rfl rfl)).mp c55) | skip
            unfold f_X11_market_b62
            intro x61 ex61
            have rx61 := i_rng x61
            first | (have tx61 : x61.toInt = (v2.toInt + (0)) := by (rw [ex61]; exact (i_add rfl (show (0 : Int32).toInt = 0 from rfl) (by omega) (by omega)))) | (have tx61 : x61.toInt = (v2 + (0 : Int32)).toInt := by rw [ex61])
            intro x62 ex62
            have rx62 := i_rng x62
            first | (have tx62 : x62.toInt = v4.toInt + (1) := by (rw [ex62]; exact (i_add rfl (show (1 : Int32).toInt = 1 from rfl) (by omega) (by omega)))) | skip
            have t63 : (1 : Int32).toInt = 1 := rfl
            exact ih x61 (1 : Int32) x62 Z37 I35 L36 w_I35 bd_Z37 q_I35 cp_Z37   (by omega)  (by omega)
set_option maxHeartbeats 4000000 in
set_option maxRecDepth 100000 in
theorem s_X11_market {B : Nat × Nat} {T : Nat} {Z : jZ} {I : jI} {L : jL} (w_I : WD Z I) (bd_Z : BUD B Z T) (v0 : Nat) (v1 : Int32) (kv0 : jk Z v0 11) {Q : Int32 → jZ → jI → jL → Prop} (hQ : ∀ (r : Int32) (Z' : jZ) (I' : jI) (L' : jL), WD Z' I' → BUD B Z' T → FR Ws_X11_market Z I Z' I' → CP Z Z' → Q r Z' I' L') : f_X11_market B v0 v1 Z I L Q := by
  unfold f_X11_market
  have q_I : FR Ws_X11_market Z I Z I := FR.rf
  have cp_Z : CP Z Z := CP.rf
  have rv1 := i_rng v1
  refine ⟨fun c64 => ?_, fun c64 => ?_⟩
  · skip
    first | (have t65 : v1.toInt < (1) := (i_lt rfl (show (1 : Int32).toInt = 1 from rfl)).mp c64) | (have t65 : v1.toInt < (1 : Int32).toInt := (i_lt rfl rfl).mp c64) | skip
    have t66 : (-1 : Int32).toInt = -1 := rfl
    exact hQ (-1 : Int32) Z I L w_I bd_Z q_I cp_Z 
  · skip
    first | (have t67 : ¬ (v1.toInt < (1)) := (not_congr (i_lt rfl (show (1 : Int32).toInt = 1 from rfl))).mp c64) | (have t67 : ¬ (v1.toInt < (1 : Int32).toInt) := (not_congr (i_lt rfl rfl)).mp c64) | skip
    refine ⟨fun c68 => ?_, fun c68 => ?_⟩
    · skip
      first | (have t69 : (3) < v1.toInt := (i_lt (show (3 : Int32).toInt = 3 from rfl) rfl).mp c68) | (have t69 : (3 : Int32).toInt < v1.toInt := (i_lt rfl rfl).mp c68) | skip
      have t70 : (-1 : Int32).toInt = -1 := rfl
      exact hQ (-1 : Int32) Z I L w_I bd_Z q_I cp_Z 
    · skip
      first | (have t71 : ¬ ((3) < v1.toInt) := (not_congr (i_lt (show (3 : Int32).toInt = 3 from rfl) rfl)).mp c68) | (have t71 : ¬ ((3 : Int32).toInt < v1.toInt) := (not_congr (i_lt rfl rfl)).mp c68) | skip
      intro b72 eb72
      obtain ⟨x73, ex73, kb72⟩ := sh_o w_I.1 kv0 (j := 2) (k := 8) rfl
      cases eb72.symm.trans ex73
      have t75 : 0 ≤ (I b72 9).toInt ∧ (I b72 9).toInt ≤ 24 := w_I.fld 8 9 kb72 (by decide)
      refine ⟨fun c76 => ?_, fun c76 => ?_⟩
      · skip
        first | (have t77 : ¬ ((I b72 9).toInt = (0)) := (not_congr (i_eq rfl (show (0 : Int32).toInt = 0 from rfl))).mp c76) | (have t77 : ¬ ((I b72 9).toInt = (0 : Int32).toInt) := (not_congr (i_eq rfl rfl)).mp c76) | skip
        have t78 : (0 : Int32).toInt = 0 := rfl
        have t79 : (0 : Int32).toInt = 0 := rfl
        have t80 : (0 : Int32).toInt = 0 := rfl
        exact ⟨(3 - (0 : Int32).toInt).toNat + 1, l_X11_market_L29 w_I v0 v1 kv0   hQ   _ (0 : Int32) (0 : Int32) (0 : Int32) Z I L w_I bd_Z q_I cp_Z   (by omega)  (by omega)⟩
      · skip
        first | (have t81 : (I b72 9).toInt = (0) := (i_eq rfl (show (0 : Int32).toInt = 0 from rfl)).mp c76) | (have t81 : (I b72 9).toInt = (0 : Int32).toInt := (i_eq rfl rfl).mp c76) | skip
        have t82 : (-1 : Int32).toInt = -1 := rfl
        exact hQ (-1 : Int32) Z I L w_I bd_Z q_I cp_Z 
end
