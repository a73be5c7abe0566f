def Ws_X12_ways : List (Nat × Nat) := [(12, 21), (12, 22), (12, 24), (12, 25), (12, 26), (12, 27), (12, 31), (12, 32), (12, 33), (12, 34), (12, 37), (12, 38), (12, 45), (12, 46), (12, 47)]
set_option maxHeartbeats 4000000 in
set_option maxRecDepth 100000 in
theorem s_X12_ways {B : Nat × Nat} {T : Nat} {Z : jZ} {I : jI} {L : jL} (w_I : WD Z I) (bd_Z : BUD B Z T) (v0 : Nat) (v1 : Int32) (v2 : Int32) (kv0 : jk Z v0 12) {Q : Int64 → jZ → jI → jL → Prop} (hQ : ∀ (r : Int64) (Z' : jZ) (I' : jI) (L' : jL), WD Z' I' → BUD B Z' T → FR Ws_X12_ways Z I Z' I' → CP Z Z' → Q r Z' I' L') : f_X12_ways B v0 v1 v2 Z I L Q := by
  unfold f_X12_ways
  have q_I : FR Ws_X12_ways Z I Z I := FR.rf
  have cp_Z : CP Z Z := CP.rf
  have rv1 := i_rng v1
  have rv2 := i_rng v2
  intro I1 eI1
  have t2 : (0 : Int32).toInt = 0 := rfl
  have w_I1 : WD Z I1 := by rw [eI1]; exact WD_putF w_I 12 22 kv0 (by decide) (by decide) trivial
  have f_I1 : FR [(12, 22)] Z I Z I1 := by rw [eI1]; exact FR_putF kv0 (by decide) List.mem_cons_self
  have q_I1 : FR Ws_X12_ways Z I Z I1 := q_I.trans w_I.1 w_I.2.1 (f_I1.mono (by decide))
  first | (have u3 : (I1 v0 22).toInt = (0) := by (rw [eI1, show jpI I v0 22 (0 : Int32) v0 22 = (0 : Int32) from jpI_at] <;> exact (show (0 : Int32).toInt = 0 from rfl))) | skip
  refine s_X12_isOne w_I1 v0 v1 kv0   (fun r4 p5 => ?_)
  have rr4 := i_rng r4
  refine ⟨fun c6 => ?_, fun c6 => ?_⟩
  · skip
    first | (have t7 : r4.toInt = (0) := (i_eq rfl (show (0 : Int32).toInt = 0 from rfl)).mp c6) | (have t7 : r4.toInt = (0 : Int32).toInt := (i_eq rfl rfl).mp c6) | skip
    unfold f_X12_ways_b27
    exact hQ (-1 : Int64) Z I1 L w_I1 bd_Z q_I1 cp_Z 
  · skip
    first | (have t8 : ¬ (r4.toInt = (0)) := (not_congr (i_eq rfl (show (0 : Int32).toInt = 0 from rfl))).mp c6) | (have t8 : ¬ (r4.toInt = (0 : Int32).toInt) := (not_congr (i_eq rfl rfl)).mp c6) | skip
    have t10 : 0 ≤ (I1 v0 0).toInt ∧ (I1 v0 0).toInt ≤ 24 := w_I1.fld 12 0 kv0 (by decide)
    refine ⟨fun c11 => ?_, fun c11 => ?_⟩
    · skip
      first | (have t12 : (I1 v0 0).toInt = (0) := (i_eq rfl (show (0 : Int32).toInt = 0 from rfl)).mp c11) | (have t12 : (I1 v0 0).toInt = (0 : Int32).toInt := (i_eq rfl rfl).mp c11) | skip
      unfold f_X12_ways_b27
      exact hQ (-1 : Int64) Z I1 L w_I1 bd_Z q_I1 cp_Z 
    · skip
      first | (have t13 : ¬ ((I1 v0 0).toInt = (0)) := (not_congr (i_eq rfl (show (0 : Int32).toInt = 0 from rfl))).mp c11) | (have t13 : ¬ ((I1 v0 0).toInt = (0 : Int32).toInt) := (not_congr (i_eq rfl rfl)).mp c11) | skip
      refine s_X12_isCost w_I1 v2    (fun r14 p15 => ?_)
      have rr14 := i_rng r14
      refine ⟨fun c16 => ?_, fun c16 => ?_⟩
      · skip
        first | (have t17 : ¬ (r14.toInt = (0)) := (not_congr (i_eq rfl (show (0 : Int32).toInt = 0 from rfl))).mp c16) | (have t17 : ¬ (r14.toInt = (0 : Int32).toInt) := (not_congr (i_eq rfl rfl)).mp c16) | skip
        obtain ⟨b18, eb18, kb18, lb18⟩ := sh_f w_I1.1 kv0 (j := 37) (k := 14) (m := 75) rfl
        obtain ⟨b19, eb19, kb19, lb19⟩ := sh_f w_I1.1 kv0 (j := 38) (k := 14) (m := 75) rfl
        refine s_X12_countWays w_I1 bd_Z v0 v1 v2 kv0 b18 eb18 b19 eb19 (by omega) (fun r20 Z23 I21 L22 w_I21 bd_Z23 f_I21 c_Z23  => ?_)
        have q_I21 : FR Ws_X12_ways Z I Z23 I21 := q_I1.trans w_I.1 w_I.2.1 (f_I21.mono (by decide))
        have cp_Z23 : CP Z Z23 := cp_Z.trans q_I1.1 c_Z23
        have x_Z23 := f_I21.1
        have k24 := (f_I21.1 _ _ kv0).1
        have k25 := (f_I21.1 _ _ kb18).1
        have l26 := (f_I21.1 _ _ kb18).2.trans lb18
        have k27 := (f_I21.1 _ _ kv0).1
        have e28 := (f_I21.2.1 v0 12 37 kv0 (by decide) (by decide)).trans eb18
        have k29 := (f_I21.1 _ _ kb19).1
        have l30 := (f_I21.1 _ _ kb19).2.trans lb19
        have k31 := (f_I21.1 _ _ kv0).1
        have e32 := (f_I21.2.1 v0 12 38 kv0 (by decide) (by decide)).trans eb19
        have u33 : (I21 v0 22).toInt = (I1 v0 22).toInt := by rw [f_I21.2.2.1 v0 12 22 kv0 (by decide) (by decide)]
        have u34 : (I21 v0 0).toInt = (I1 v0 0).toInt := by rw [f_I21.2.2.1 v0 12 0 kv0 (by decide) (by decide)]
        have rr20 := i_rng r20
        intro I35 eI35
        have t36 : (0 : Int32).toInt = 0 := rfl
        have w_I35 : WD Z23 I35 := by rw [eI35]; exact WD_putF w_I21 12 21 k24 (by decide) (by decide) (by constructor <;> omega)
        have f_I35 : FR [(12, 21)] Z23 I21 Z23 I35 := by rw [eI35]; exact FR_putF k24 (by decide) List.mem_cons_self
        have q_I35 : FR Ws_X12_ways Z I Z23 I35 := q_I21.trans w_I.1 w_I.2.1 (f_I35.mono (by decide))
        have u37 : (I35 v0 22).toInt = (I21 v0 22).toInt := by rw [f_I35.2.2.1 v0 12 22 k24 (by decide) (by decide)]
        have u38 : (I35 v0 0).toInt = (I21 v0 0).toInt := by rw [f_I35.2.2.1 v0 12 0 k24 (by decide) (by decide)]
        first | (have u39 : (I35 v0 21).toInt = (0) := by (rw [eI35, show jpI I21 v0 21 (0 : Int32) v0 21 = (0 : Int32) from jpI_at] <;> exact (show (0 : Int32).toInt = 0 from rfl))) | skip
        refine s_X12_tell w_I35 v0 ((I35 v0 47).toInt64) k24  (by omega) (fun  I41 L42 w_I41 f_I41 p40 => ?_)
        have q_I41 : FR Ws_X12_ways Z I Z23 I41 := q_I35.trans w_I.1 w_I.2.1 (f_I41.mono (by decide))
        have u43 : (I41 v0 22).toInt = (I35 v0 22).toInt := by rw [f_I41.2.2.1 v0 12 22 k24 (by decide) (by decide)]
        have u44 : (I41 v0 0).toInt = (I35 v0 0).toInt := by rw [f_I41.2.2.1 v0 12 0 k24 (by decide) (by decide)]
        have u45 : (I41 v0 47).toInt = (I35 v0 47).toInt := by rw [f_I41.2.2.1 v0 12 47 k24 (by decide) (by decide)]
        exact hQ (r20.toInt64) Z23 I41 L42 w_I41 bd_Z23 q_I41 cp_Z23 
      · skip
        first | (have t46 : r14.toInt = (0) := (i_eq rfl (show (0 : Int32).toInt = 0 from rfl)).mp c16) | (have t46 : r14.toInt = (0 : Int32).toInt := (i_eq rfl rfl).mp c16) | skip
        unfold f_X12_ways_b27
        exact hQ (-1 : Int64) Z I1 L w_I1 bd_Z q_I1 cp_Z 
def Ws_X12_countTreading : List (Nat × Nat) := [(12, 24), (12, 25), (12, 26), (12, 27), (12, 31), (12, 32), (12, 33), (12, 34), (12, 37), (12, 38), (12, 39), (12, 45), (12, 46), (12, 47)]
set_option maxHeartbeats 4000000 in
set_option maxRecDepth 100000 in
theorem s_X12_countTreading {B : Nat × Nat} {T : Nat} {Z : jZ} {I : jI} {L : jL} (w_I : WD Z I) (bd_Z : BUD B Z T) (v0 : Nat) (v1 : Int32) (v2 : Int32) (v3 : Int32) (kv0 : jk Z v0 12) (p0 : 0 ≤ v1.toInt ∧ v1.toInt ≤ 5 ∧ 0 ≤ v2.toInt ∧ v2.toInt ≤ 999 ∧ 0 ≤ v3.toInt ∧ v3.toInt ≤ 23) {Q : Int32 → jZ → jI → jL → Prop} (hQ : ∀ (r : Int32) (Z' : jZ) (I' : jI) (L' : jL), WD Z' I' → BUD B Z' T → FR Ws_X12_countTreading Z I Z' I' → CP Z Z' → Q r Z' I' L') : f_X12_countTreading B v0 v1 v2 v3 Z I L Q := by
  unfold f_X12_countTreading
  have q_I : FR Ws_X12_countTreading Z I Z I := FR.rf
  have cp_Z : CP Z Z := CP.rf
  have rv1 := i_rng v1
  have rv2 := i_rng v2
  have rv3 := i_rng v3
  obtain ⟨b1, eb1, kb1, lb1⟩ := sh_f w_I.1 kv0 (j := 37) (k := 14) (m := 75) rfl
  obtain ⟨b2, eb2, kb2, lb2⟩ := sh_f w_I.1 kv0 (j := 38) (k := 14) (m := 75) rfl
  refine s_X12_countWays w_I bd_Z v0 v1 v2 kv0 b1 eb1 b2 eb2 (by omega) (fun r3 Z6 I4 L5 w_I4 bd_Z6 f_I4 c_Z6  => ?_)
  have q_I4 : FR Ws_X12_countTreading Z I Z6 I4 := q_I.trans w_I.1 w_I.2.1 (f_I4.mono (by decide))
  have cp_Z6 : CP Z Z6 := cp_Z.trans q_I.1 c_Z6
  have x_Z6 := f_I4.1
  have k7 := (f_I4.1 _ _ kv0).1
  have k8 := (f_I4.1 _ _ kb1).1
  have l9 := (f_I4.1 _ _ kb1).2.trans lb1
  have k10 := (f_I4.1 _ _ kv0).1
  have e11 := (f_I4.2.1 v0 12 37 kv0 (by decide) (by decide)).trans eb1
  have k12 := (f_I4.1 _ _ kb2).1
  have l13 := (f_I4.1 _ _ kb2).2.trans lb2
  have k14 := (f_I4.1 _ _ kv0).1
  have e15 := (f_I4.2.1 v0 12 38 kv0 (by decide) (by decide)).trans eb2
  have rr3 := i_rng r3
  intro I16 eI16
  have w_I16 : WD Z6 I16 := by rw [eI16]; exact WD_putF w_I4 12 39 k7 (by decide) (by decide) (by constructor <;> omega)
  have f_I16 : FR [(12, 39)] Z6 I4 Z6 I16 := by rw [eI16]; exact FR_putF k7 (by decide) List.mem_cons_self
  have q_I16 : FR Ws_X12_countTreading Z I Z6 I16 := q_I4.trans w_I.1 w_I.2.1 (f_I16.mono (by decide))
  first | (have u17 : (I16 v0 39).toInt = v3.toInt := by (rw [eI16, show jpI I4 v0 39 v3 v0 39 = v3 from jpI_at] <;> exact rfl)) | skip
  refine s_X12_countWays w_I16 bd_Z6 v0 v1 v2 k7 b1 e11 b2 e15 (by omega) (fun r18 Z21 I19 L20 w_I19 bd_Z21 f_I19 c_Z21  => ?_)
  have q_I19 : FR Ws_X12_countTreading Z I Z21 I19 := q_I16.trans w_I.1 w_I.2.1 (f_I19.mono (by decide))
  have cp_Z21 : CP Z Z21 := cp_Z6.trans q_I16.1 c_Z21
  have x_Z21 := f_I19.1
  have k22 := (f_I19.1 _ _ k7).1
  have k23 := (f_I19.1 _ _ k8).1
  have l24 := (f_I19.1 _ _ k8).2.trans l9
  have k25 := (f_I19.1 _ _ k10).1
  have e26 := (f_I19.2.1 v0 12 37 k10 (by decide) (by decide)).trans e11
  have k27 := (f_I19.1 _ _ k12).1
  have l28 := (f_I19.1 _ _ k12).2.trans l13
  have k29 := (f_I19.1 _ _ k14).1
  have e30 := (f_I19.2.1 v0 12 38 k14 (by decide) (by decide)).trans e15
  have u31 : (I19 v0 39).toInt = (I16 v0 39).toInt := by rw [f_I19.2.2.1 v0 12 39 k7 (by decide) (by decide)]
  have rr18 := i_rng r18
  intro I32 eI32
  have t33 : (-1 : Int32).toInt = -1 := rfl
  have w_I32 : WD Z21 I32 := by rw [eI32]; exact WD_putF w_I19 12 39 k22 (by decide) (by decide) (by constructor <;> omega)
  have f_I32 : FR [(12, 39)] Z21 I19 Z21 I32 := by rw [eI32]; exact FR_putF k22 (by decide) List.mem_cons_self
  have q_I32 : FR Ws_X12_countTreading Z I Z21 I32 := q_I19.trans w_I.1 w_I.2.1 (f_I32.mono (by decide))
  first | (have u34 : (I32 v0 39).toInt = (-1) := by (rw [eI32, show jpI I19 v0 39 (-1 : Int32) v0 39 = (-1 : Int32) from jpI_at] <;> exact (show (-1 : Int32).toInt = -1 from rfl))) | skip
  try (have t35 : (r3 - r18).toInt = (r3.toInt - r18.toInt) := (i_sub rfl rfl (by omega) (by omega)))
  exact hQ (r3 - r18) Z21 I32 L20 w_I32 bd_Z21 q_I32 cp_Z21 
def Ws_X12_trod : List (Nat × Nat) := [(12, 21), (12, 22), (12, 24), (12, 25), (12, 26), (12, 27), (12, 31), (12, 32), (12, 33), (12, 34), (12, 37), (12, 38), (12, 39), (12, 45), (12, 46), (12, 47)]
set_option maxHeartbeats 4000000 in
set_option maxRecDepth 100000 in
theorem s_X12_trod {B : Nat × Nat} {T : Nat} {Z : jZ} {I : jI} {L : jL} (w_I : WD Z I) (bd_Z : BUD B Z T) (v0 : Nat) (v1 : Int32) (v2 : Int32) (v3 : Int32) (kv0 : jk Z v0 12) {Q : Int32 → jZ → jI → jL → Prop} (hQ : ∀ (r : Int32) (Z' : jZ) (I' : jI) (L' : jL), WD Z' I' → BUD B Z' T → FR Ws_X12_trod Z I Z' I' → CP Z Z' → Q r Z' I' L') : f_X12_trod B v0 v1 v2 v3 Z I L Q := by
  unfold f_X12_trod
  have q_I : FR Ws_X12_trod Z I Z I := FR.rf
  have cp_Z : CP Z Z := CP.rf
  have rv1 := i_rng v1
  have rv2 := i_rng v2
  have rv3 := i_rng v3
  intro I1 eI1
  have t2 : (0 : Int32).toInt = 0 := rfl
  have w_I1 : WD Z I1 := by rw [eI1]; exact WD_putF w_I 12 22 kv0 (by decide) (by decide) trivial
  have f_I1 : FR [(12, 22)] Z I Z I1 := by rw [eI1]; exact FR_putF kv0 (by decide) List.mem_cons_self
  have q_I1 : FR Ws_X12_trod Z I Z I1 := q_I.trans w_I.1 w_I.2.1 (f_I1.mono (by decide))
  first | (have u3 : (I1 v0 22).toInt = (0) := by (rw [eI1, show jpI I v0 22 (0 : Int32) v0 22 = (0 : Int32) from jpI_at] <;> exact (show (0 : Int32).toInt = 0 from rfl))) | skip
  refine s_X12_isOne w_I1 v0 v1 kv0   (fun r4 p5 => ?_)
  have rr4 := i_rng r4
  refine ⟨fun c6 => ?_, fun c6 => ?_⟩
  · skip
    first | (have t7 : r4.toInt = (0) := (i_eq rfl (show (0 : Int32).toInt = 0 from rfl)).mp c6) | (have t7 : r4.toInt = (0 : Int32).toInt := (i_eq rfl rfl).mp c6) | skip
    have t8 : (-1 : Int32).toInt = -1 := rfl
    exact hQ (-1 : Int32) Z I1 L w_I1 bd_Z q_I1 cp_Z 
  · skip
    first | (have t9 : ¬ (r4.toInt = (0)) := (not_congr (i_eq rfl (show (0 : Int32).toInt = 0 from rfl))).mp c6) | (have t9 : ¬ (r4.toInt = (0 : Int32).toInt) := (not_congr (i_eq rfl rfl)).mp c6) | skip
    refine s_X12_isCost w_I1 v2    (fun r10 p11 => ?_)
    have rr10 := i_rng r10
    refine ⟨fun c12 => ?_, fun c12 => ?_⟩
    · skip
      first | (have t13 : r10.toInt = (0) := (i_eq rfl (show (0 : Int32).toInt = 0 from rfl)).mp c12) | (have t13 : r10.toInt = (0 : Int32).toInt := (i_eq rfl rfl).mp c12) | skip
      have t14 : (-1 : Int32).toInt = -1 := rfl
      exact hQ (-1 : Int32) Z I1 L w_I1 bd_Z q_I1 cp_Z 
    · skip
      first | (have t15 : ¬ (r10.toInt = (0)) := (not_congr (i_eq rfl (show (0 : Int32).toInt = 0 from rfl))).mp c12) | (have t15 : ¬ (r10.toInt = (0 : Int32).toInt) := (not_congr (i_eq rfl rfl)).mp c12) | skip
      refine s_X12_isStep w_I1 v0 v3 kv0   (fun r16 p17 => ?_)
      have rr16 := i_rng r16
      refine ⟨fun c18 => ?_, fun c18 => ?_⟩
      · skip
        first | (have t19 : ¬ (r16.toInt = (0)) := (not_congr (i_eq rfl (show (0 : Int32).toInt = 0 from rfl))).mp c18) | (have t19 : ¬ (r16.toInt = (0 : Int32).toInt) := (not_congr (i_eq rfl rfl)).mp c18) | skip
        refine s_X12_countTreading w_I1 bd_Z v0 v1 v2 v3 kv0  (by omega) (fun r20 Z23 I21 L22 w_I21 bd_Z23 f_I21 c_Z23  => ?_)
        have q_I21 : FR Ws_X12_trod Z I Z23 I21 := q_I1.trans w_I.1 w_I.2.1 (f_I21.mono (by decide))
        have cp_Z23 : CP Z Z23 := cp_Z.trans q_I1.1 c_Z23
        have x_Z23 := f_I21.1
        have k24 := (f_I21.1 _ _ kv0).1
        have u25 : (I21 v0 22).toInt = (I1 v0 22).toInt := by rw [f_I21.2.2.1 v0 12 22 kv0 (by decide) (by decide)]
        have rr20 := i_rng r20
        obtain ⟨b26, eb26, kb26, lb26⟩ := sh_f w_I21.1 k24 (j := 37) (k := 14) (m := 75) rfl
        obtain ⟨b27, eb27, kb27, lb27⟩ := sh_f w_I21.1 k24 (j := 38) (k := 14) (m := 75) rfl
        refine s_X12_countWays w_I21 bd_Z23 v0 v1 v2 k24 b26 eb26 b27 eb27 (by omega) (fun r28 Z31 I29 L30 w_I29 bd_Z31 f_I29 c_Z31  => ?_)
        have q_I29 : FR Ws_X12_trod Z I Z31 I29 := q_I21.trans w_I.1 w_I.2.1 (f_I29.mono (by decide))
        have cp_Z31 : CP Z Z31 := cp_Z23.trans q_I21.1 c_Z31
        have x_Z31 := f_I29.1
        have k32 := (f_I29.1 _ _ k24).1
        have k33 := (f_I29.1 _ _ kb26).1
        have l34 := (f_I29.1 _ _ kb26).2.trans lb26
        have k35 := (f_I29.1 _ _ k24).1
        have e36 := (f_I29.2.1 v0 12 37 k24 (by decide) (by decide)).trans eb26
        have k37 := (f_I29.1 _ _ kb27).1
        have l38 := (f_I29.1 _ _ kb27).2.trans lb27
        have k39 := (f_I29.1 _ _ k24).1
        have e40 := (f_I29.2.1 v0 12 38 k24 (by decide) (by decide)).trans eb27
        have u41 : (I29 v0 22).toInt = (I21 v0 22).toInt := by rw [f_I29.2.2.1 v0 12 22 k24 (by decide) (by decide)]
        have rr28 := i_rng r28
        refine ⟨fun c42 => ?_, fun c42 => ?_⟩
        · skip
          first | (have t43 : ¬ (r28.toInt = (0)) := (not_congr (i_eq rfl (show (0 : Int32).toInt = 0 from rfl))).mp c42) | (have t43 : ¬ (r28.toInt = (0 : Int32).toInt) := (not_congr (i_eq rfl rfl)).mp c42) | skip
          intro I44 eI44
          have t45 : (0 : Int32).toInt = 0 := rfl
          have w_I44 : WD Z31 I44 := by rw [eI44]; exact WD_putF w_I29 12 21 k32 (by decide) (by decide) (by constructor <;> omega)
          have f_I44 : FR [(12, 21)] Z31 I29 Z31 I44 := by rw [eI44]; exact FR_putF k32 (by decide) List.mem_cons_self
          have q_I44 : FR Ws_X12_trod Z I Z31 I44 := q_I29.trans w_I.1 w_I.2.1 (f_I44.mono (by decide))
          have u46 : (I44 v0 22).toInt = (I29 v0 22).toInt := by rw [f_I44.2.2.1 v0 12 22 k32 (by decide) (by decide)]
          first | (have u47 : (I44 v0 21).toInt = (0) := by (rw [eI44, show jpI I29 v0 21 (0 : Int32) v0 21 = (0 : Int32) from jpI_at] <;> exact (show (0 : Int32).toInt = 0 from rfl))) | skip
          refine s_X12_tellPart w_I44 v0 (r20.toInt64) (r28.toInt64) k32  (by exact l_of (by omega)) (by omega) (fun  I48 L49 w_I48 f_I48  => ?_)
          have q_I48 : FR Ws_X12_trod Z I Z31 I48 := q_I44.trans w_I.1 w_I.2.1 (f_I48.mono (by decide))
          have u50 : (I48 v0 22).toInt = (I44 v0 22).toInt := by rw [f_I48.2.2.1 v0 12 22 k32 (by decide) (by decide)]
          have t51 : (0 : Int32).toInt = 0 := rfl
          exact hQ (0 : Int32) Z31 I48 L49 w_I48 bd_Z31 q_I48 cp_Z31 
        · skip
          first | (have t52 : r28.toInt = (0) := (i_eq rfl (show (0 : Int32).toInt = 0 from rfl)).mp c42) | (have t52 : r28.toInt = (0 : Int32).toInt := (i_eq rfl rfl).mp c42) | skip
          have t53 : (-2 : Int32).toInt = -2 := rfl
          exact hQ (-2 : Int32) Z31 I29 L30 w_I29 bd_Z31 q_I29 cp_Z31 
      · skip
        first | (have t54 : r16.toInt = (0) := (i_eq rfl (show (0 : Int32).toInt = 0 from rfl)).mp c18) | (have t54 : r16.toInt = (0 : Int32).toInt := (i_eq rfl rfl).mp c18) | skip
        have t55 : (-1 : Int32).toInt = -1 := rfl
        exact hQ (-1 : Int32) Z I1 L w_I1 bd_Z q_I1 cp_Z 
def Ws_X12_who : List (Nat × Nat) := [(12, 22), (12, 24), (12, 25), (12, 26), (12, 27), (12, 31), (12, 32), (12, 33), (12, 34), (12, 37), (12, 38), (12, 39), (12, 45), (12, 46), (12, 47)]
set_option maxHeartbeats 4000000 in
set_option maxRecDepth 100000 in
theorem l_X12_who_L27 {B : Nat × Nat} {T : Nat} {Z0 : jZ} {I0 : jI} {Q : Int32 → jZ → jI → jL → Prop} (w0 : WD Z0 I0) (v0 : Nat) (v1 : Int32) (v2 : Int32) (kv0 : jk Z0 v0 12) (hQ : ∀ (r : Int32) (Z' : jZ) (I' : jI) (L' : jL), WD Z' I' → BUD B Z' T → FR Ws_X12_who Z0 I0 Z' I' → CP Z0 Z' → Q r Z' I' L') : ∀ (n : Nat) (v3 : Int32) (v4 : Int32) (Z : jZ) (I : jI) (L : jL), WD Z I → BUD B Z T → FR Ws_X12_who Z0 I0 Z I → CP Z0 Z →   (0 ≤ v4.toInt ∧ v4.toInt ≤ 6 ∧ 0 ≤ v1.toInt ∧ v1.toInt ≤ 999 ∧ 0 ≤ v2.toInt ∧ v2.toInt ≤ 23) → 6 - v4.toInt < (n : Int) → f_X12_who_L27 B  Q n v0 v1 v2 v3 v4 Z I L := by
  intro n
  induction n with
  | zero =>
    intro v3 v4 Z I L w_I bd_Z q_I cp_Z   li  me
    exfalso
    omega
  | succ n ih =>
    intro v3 v4 Z I L w_I bd_Z q_I cp_Z   li  me
    unfold f_X12_who_L27
    have rv3 := i_rng v3
    have rv4 := i_rng v4
    have rv1 := i_rng v1
    have rv2 := i_rng v2
    have kv0_0 := kv0
    have kv0 := (q_I.1 _ _ kv0).1
    have xq_I := q_I.1
    have t2 : 0 ≤ (I v0 8).toInt ∧ (I v0 8).toInt ≤ 6 := w_I.fld 12 8 kv0 (by decide)
    refine ⟨fun c3 => ?_, fun c3 => ?_⟩
    · skip
      first | (have t4 : (I v0 8).toInt ≤ v4.toInt := (i_le rfl rfl).mp c3) | (have t4 : (I v0 8).toInt ≤ v4.toInt := (i_le rfl rfl).mp c3) | skip
      exact hQ v3 Z I L w_I bd_Z q_I cp_Z 
    · skip
      first | (have t5 : ¬ ((I v0 8).toInt ≤ v4.toInt) := (not_congr (i_le rfl rfl)).mp c3) | (have t5 : ¬ ((I v0 8).toInt ≤ v4.toInt) := (not_congr (i_le rfl rfl)).mp c3) | skip
      refine s_X12_countTreading w_I bd_Z v0 v4 v1 v2 kv0  (by omega) (fun r6 Z9 I7 L8 w_I7 bd_Z9 f_I7 c_Z9  => ?_)
      have q_I7 : FR Ws_X12_who Z0 I0 Z9 I7 := q_I.trans w0.1 w0.2.1 (f_I7.mono (by decide))
      have cp_Z9 : CP Z0 Z9 := cp_Z.trans q_I.1 c_Z9
      have x_Z9 := f_I7.1
      have k10 := (f_I7.1 _ _ kv0).1
      have u11 : (I7 v0 8).toInt = (I v0 8).toInt := by rw [f_I7.2.2.1 v0 12 8 kv0 (by decide) (by decide)]
      have rr6 := i_rng r6
      refine ⟨fun c12 => ?_, fun c12 => ?_⟩
      · skip
        first | (have t13 : r6.toInt ≤ (0) := (i_le rfl (show (0 : Int32).toInt = 0 from rfl)).mp c12) | (have t13 : r6.toInt ≤ (0 : Int32).toInt := (i_le rfl rfl).mp c12) | skip
        unfold f_X12_who_b56
        intro x14 ex14
        have rx14 := i_rng x14
        first | (have tx14 : x14.toInt = (v3 ||| (0 : Int32)).toInt := by (rw [ex14]; exact rfl)) | (have tx14 : x14.toInt = (v3 ||| (0 : Int32)).toInt := by rw [ex14])
        intro x15 ex15
        have rx15 := i_rng x15
        first | (have tx15 : x15.toInt = v4.toInt + (1) := by (rw [ex15]; exact (i_add rfl (show (1 : Int32).toInt = 1 from rfl) (by omega) (by omega)))) | skip
        exact ih x14 x15 Z9 I7 L8 w_I7 bd_Z9 q_I7 cp_Z9   (by omega)  (by omega)
      · skip
        first | (have t16 : ¬ (r6.toInt ≤ (0)) := (not_congr (i_le rfl (show (0 : Int32).toInt = 0 from rfl))).mp c12) | (have t16 : ¬ (r6.toInt ≤ (0 : Int32).toInt) := (not_congr (i_le rfl rfl)).mp c12) | skip
        unfold f_X12_who_b56
        intro x17 ex17
        have rx17 := i_rng x17
        first | (have tx17 : x17.toInt = (v3 ||| ((1 : Int32) <<< (v4 &&& 31))).toInt := by (rw [ex17]; exact rfl)) | (have tx17 : x17.toInt = (v3 ||| ((1 : Int32) <<< (v4 &&& 31))).toInt := by rw [ex17])
        intro x18 ex18
        have rx18 := i_rng x18
        first | (have tx18 : x18.toInt = v4.toInt + (1) := by (rw [ex18]; exact (i_add rfl (show (1 : Int32).toInt = 1 from rfl) (by omega) (by omega)))) | skip
        exact ih x17 x18 Z9 I7 L8 w_I7 bd_Z9 q_I7 cp_Z9   (by omega)  (by omega)
set_option maxHeartbeats 4000000 in
set_option maxRecDepth 100000 in
theorem s_X12_who {B : Nat × Nat} {T : Nat} {Z : jZ} {I : jI} {L : jL} (w_I : WD Z I) (bd_Z : BUD B Z T) (v0 : Nat) (v1 : Int32) (v2 : Int32) (kv0 : jk Z v0 12) {Q : Int32 → jZ → jI → jL → Prop} (hQ : ∀ (r : Int32) (Z' : jZ) (I' : jI) (L' : jL), WD Z' I' → BUD B Z' T → FR Ws_X12_who Z I Z' I' → CP Z Z' → Q r Z' I' L') : f_X12_who B v0 v1 v2 Z I L Q := by
  unfold f_X12_who
  have q_I : FR Ws_X12_who Z I Z I := FR.rf
  have cp_Z : CP Z Z := CP.rf
  have rv1 := i_rng v1
  have rv2 := i_rng v2
  intro I19 eI19
  have t20 : (0 : Int32).toInt = 0 := rfl
  have w_I19 : WD Z I19 := by rw [eI19]; exact WD_putF w_I 12 22 kv0 (by decide) (by decide) trivial
  have f_I19 : FR [(12, 22)] Z I Z I19 := by rw [eI19]; exact FR_putF kv0 (by decide) List.mem_cons_self
  have q_I19 : FR Ws_X12_who Z I Z I19 := q_I.trans w_I.1 w_I.2.1 (f_I19.mono (by decide))
  first | (have u21 : (I19 v0 22).toInt = (0) := by (rw [eI19, show jpI I v0 22 (0 : Int32) v0 22 = (0 : Int32) from jpI_at] <;> exact (show (0 : Int32).toInt = 0 from rfl))) | skip
  refine s_X12_isCost w_I19 v1    (fun r22 p23 => ?_)
  have rr22 := i_rng r22
  refine ⟨fun c24 => ?_, fun c24 => ?_⟩
  · skip
    first | (have t25 : r22.toInt = (0) := (i_eq rfl (show (0 : Int32).toInt = 0 from rfl)).mp c24) | (have t25 : r22.toInt = (0 : Int32).toInt := (i_eq rfl rfl).mp c24) | skip
    have t26 : (-1 : Int32).toInt = -1 := rfl
    exact hQ (-1 : Int32) Z I19 L w_I19 bd_Z q_I19 cp_Z 
  · skip
    first | (have t27 : ¬ (r22.toInt = (0)) := (not_congr (i_eq rfl (show (0 : Int32).toInt = 0 from rfl))).mp c24) | (have t27 : ¬ (r22.toInt = (0 : Int32).toInt) := (not_congr (i_eq rfl rfl)).mp c24) | skip
    refine s_X12_isStep w_I19 v0 v2 kv0   (fun r28 p29 => ?_)
    have rr28 := i_rng r28
    refine ⟨fun c30 => ?_, fun c30 => ?_⟩
    · skip
      first | (have t31 : ¬ (r28.toInt = (0)) := (not_congr (i_eq rfl (show (0 : Int32).toInt = 0 from rfl))).mp c30) | (have t31 : ¬ (r28.toInt = (0 : Int32).toInt) := (not_congr (i_eq rfl rfl)).mp c30) | skip
      have t32 : (0 : Int32).toInt = 0 := rfl
      have t33 : (0 : Int32).toInt = 0 := rfl
      exact ⟨(6 - (0 : Int32).toInt).toNat + 1, l_X12_who_L27 w_I v0 v1 v2 kv0   hQ   _ (0 : Int32) (0 : Int32) Z I19 L w_I19 bd_Z q_I19 cp_Z   (by omega)  (by omega)⟩
    · skip
      first | (have t34 : r28.toInt = (0) := (i_eq rfl (show (0 : Int32).toInt = 0 from rfl)).mp c30) | (have t34 : r28.toInt = (0 : Int32).toInt := (i_eq rfl rfl).mp c30) | skip
      have t35 : (-1 : Int32).toInt = -1 := rfl
      exact hQ (-1 : Int32) Z I19 L w_I19 bd_Z q_I19 cp_Z 
