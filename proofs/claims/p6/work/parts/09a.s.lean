set_option maxHeartbeats 4000000 in
set_option maxRecDepth 100000 in
theorem s_X12_in {Z : jZ} {I : jI} {L : jL} (w_I : WD Z I) (v0 : Int32) (v1 : Int32) (v2 : Int32) {Q : Int32 → jI → jL → Prop} (hQ : ∀ (r : Int32), ((r.toInt = 1 ∧ (v1.toInt ≤ v0.toInt ∧ v0.toInt ≤ v2.toInt)) ∨ (r.toInt = 0 ∧ ¬ (v1.toInt ≤ v0.toInt ∧ v0.toInt ≤ v2.toInt))) → Q r I L) : f_X12_in v0 v1 v2 Z I L Q := by
  unfold f_X12_in
  have rv0 := i_rng v0
  have rv1 := i_rng v1
  have rv2 := i_rng v2
  refine ⟨fun c1 => ?_, fun c1 => ?_⟩
  · skip
    first | (have t2 : v0.toInt < v1.toInt := (i_lt rfl rfl).mp c1) | (have t2 : v0.toInt < v1.toInt := (i_lt rfl rfl).mp c1) | skip
    have t3 : (0 : Int32).toInt = 0 := rfl
    exact hQ (0 : Int32) (by omega)
  · skip
    first | (have t4 : ¬ (v0.toInt < v1.toInt) := (not_congr (i_lt rfl rfl)).mp c1) | (have t4 : ¬ (v0.toInt < v1.toInt) := (not_congr (i_lt rfl rfl)).mp c1) | skip
    refine ⟨fun c5 => ?_, fun c5 => ?_⟩
    · skip
      first | (have t6 : v2.toInt < v0.toInt := (i_lt rfl rfl).mp c5) | (have t6 : v2.toInt < v0.toInt := (i_lt rfl rfl).mp c5) | skip
      have t7 : (0 : Int32).toInt = 0 := rfl
      exact hQ (0 : Int32) (by omega)
    · skip
      first | (have t8 : ¬ (v2.toInt < v0.toInt) := (not_congr (i_lt rfl rfl)).mp c5) | (have t8 : ¬ (v2.toInt < v0.toInt) := (not_congr (i_lt rfl rfl)).mp c5) | skip
      have t9 : (1 : Int32).toInt = 1 := rfl
      exact hQ (1 : Int32) (by omega)
set_option maxHeartbeats 4000000 in
set_option maxRecDepth 100000 in
theorem s_X12_has {Z : jZ} {I : jI} {L : jL} (w_I : WD Z I) (v0 : Int32) (v1 : Int32) {Q : Int32 → jI → jL → Prop} (hQ : ∀ (r : Int32), Q r I L) : f_X12_has v0 v1 Z I L Q := by
  unfold f_X12_has
  have rv0 := i_rng v0
  have rv1 := i_rng v1
  have t1 : 0 ≤ ((v0 >>> (v1 &&& 31)) &&& (1 : Int32)).toInt ∧ ((v0 >>> (v1 &&& 31)) &&& (1 : Int32)).toInt < 2 ^ 1 := i_and (n := 1) (by decide)
  refine ⟨fun c2 => ?_, fun c2 => ?_⟩
  · skip
    first | (have t3 : ¬ (((v0 >>> (v1 &&& 31)) &&& (1 : Int32)).toInt = (1)) := (not_congr (i_eq rfl (show (1 : Int32).toInt = 1 from rfl))).mp c2) | (have t3 : ¬ (((v0 >>> (v1 &&& 31)) &&& (1 : Int32)).toInt = (1 : Int32).toInt) := (not_congr (i_eq rfl rfl)).mp c2) | skip
    have t4 : (0 : Int32).toInt = 0 := rfl
    exact hQ (0 : Int32) 
  · skip
    first | (have t5 : ((v0 >>> (v1 &&& 31)) &&& (1 : Int32)).toInt = (1) := (i_eq rfl (show (1 : Int32).toInt = 1 from rfl)).mp c2) | (have t5 : ((v0 >>> (v1 &&& 31)) &&& (1 : Int32)).toInt = (1 : Int32).toInt := (i_eq rfl rfl).mp c2) | skip
    have t6 : (1 : Int32).toInt = 1 := rfl
    exact hQ (1 : Int32) 
def Ws_X12_lost : List (Nat × Nat) := [(12, 22)]
set_option maxHeartbeats 4000000 in
set_option maxRecDepth 100000 in
theorem s_X12_lost {Z : jZ} {I : jI} {L : jL} (w_I : WD Z I) (v0 : Nat) (kv0 : jk Z v0 12) {Q : Int32 → jI → jL → Prop} (hQ : ∀ (r : Int32) (I' : jI) (L' : jL), WD Z I' → FR Ws_X12_lost Z I Z I' → Q r I' L') : f_X12_lost v0 Z I L Q := by
  unfold f_X12_lost
  have q_I : FR Ws_X12_lost Z I Z I := FR.rf
  intro I1 eI1
  have t2 : (1 : Int32).toInt = 1 := rfl
  have w_I1 : WD Z I1 := by rw [eI1]; exact WD_putF w_I 12 22 kv0 (by decide) (by decide) trivial
  have f_I1 : FR [(12, 22)] Z I Z I1 := by rw [eI1]; exact FR_putF kv0 (by decide) List.mem_cons_self
  have q_I1 : FR Ws_X12_lost Z I Z I1 := q_I.trans w_I.1 w_I.2.1 (f_I1.mono (by decide))
  first | (have u3 : (I1 v0 22).toInt = (1) := by (rw [eI1, show jpI I v0 22 (1 : Int32) v0 22 = (1 : Int32) from jpI_at] <;> exact (show (1 : Int32).toInt = 1 from rfl))) | skip
  have t4 : (0 : Int32).toInt = 0 := rfl
  exact hQ (0 : Int32) I1 L w_I1 q_I1 
def Ws_X12_tell : List (Nat × Nat) := [(12, 21)]
set_option maxHeartbeats 4000000 in
set_option maxRecDepth 100000 in
theorem s_X12_tell {Z : jZ} {I : jI} {L : jL} (w_I : WD Z I) (v0 : Nat) (v1 : Int64) (kv0 : jk Z v0 12) (p0 : (I v0 21).toInt ≤ 39) {Q : jI → jL → Prop} (hQ : ∀  (I' : jI) (L' : jL), WD Z I' → FR Ws_X12_tell Z I Z I' → (I' v0 21).toInt = (I v0 21).toInt + 1 → Q I' L') : f_X12_tell v0 v1 Z I L Q := by
  unfold f_X12_tell
  have q_I : FR Ws_X12_tell Z I Z I := FR.rf
  intro b1 eb1
  obtain ⟨x2, ex2, kb1, lb1⟩ := sh_f w_I.1 kv0 (j := 20) (k := 15) (m := 40) rfl
  cases eb1.symm.trans ex2
  have t4 : 0 ≤ (I v0 21).toInt ∧ (I v0 21).toInt ≤ 40 := w_I.fld 12 21 kv0 (by decide)
  have o5 : vp_in (I v0 21) 40 := vi_of rfl (by omega) (by omega)
  refine ⟨o5, ?_⟩
  intro L6 eL6
  have t8 : 0 ≤ (I v0 21).toInt ∧ (I v0 21).toInt ≤ 40 := w_I.fld 12 21 kv0 (by decide)
  intro I9 eI9
  try (have t10 : ((I v0 21) + (1 : Int32)).toInt = ((I v0 21).toInt + (1)) := (i_add rfl (show (1 : Int32).toInt = 1 from rfl) (by omega) (by omega)))
  have w_I9 : WD Z I9 := by rw [eI9]; exact WD_putF w_I 12 21 kv0 (by decide) (by decide) (by constructor <;> omega)
  have f_I9 : FR [(12, 21)] Z I Z I9 := by rw [eI9]; exact FR_putF kv0 (by decide) List.mem_cons_self
  have q_I9 : FR Ws_X12_tell Z I Z I9 := q_I.trans w_I.1 w_I.2.1 (f_I9.mono (by decide))
  first | (have u11 : (I9 v0 21).toInt = ((I v0 21).toInt + (1)) := by (rw [eI9, show jpI I v0 21 ((I v0 21) + (1 : Int32)) v0 21 = ((I v0 21) + (1 : Int32)) from jpI_at] <;> exact (i_add rfl (show (1 : Int32).toInt = 1 from rfl) (by omega) (by omega)))) | skip
  exact hQ  I9 L6 w_I9 q_I9 (by omega)
set_option maxHeartbeats 4000000 in
set_option maxRecDepth 100000 in
theorem s_X12_isStep {Z : jZ} {I : jI} {L : jL} (w_I : WD Z I) (v0 : Nat) (v1 : Int32) (kv0 : jk Z v0 12) {Q : Int32 → jI → jL → Prop} (hQ : ∀ (r : Int32), ((r.toInt = 1 ∧ (0 ≤ v1.toInt ∧ v1.toInt < (I v0 0).toInt ∧ v1.toInt ≤ 23)) ∨ (r.toInt = 0 ∧ ¬ (0 ≤ v1.toInt ∧ v1.toInt < (I v0 0).toInt ∧ v1.toInt ≤ 23))) → Q r I L) : f_X12_isStep v0 v1 Z I L Q := by
  unfold f_X12_isStep
  have rv1 := i_rng v1
  have t2 : 0 ≤ (I v0 0).toInt ∧ (I v0 0).toInt ≤ 24 := w_I.fld 12 0 kv0 (by decide)
  have t3 : (0 : Int32).toInt = 0 := rfl
  try (have t4 : ((I v0 0) - (1 : Int32)).toInt = ((I v0 0).toInt - (1)) := (i_sub rfl (show (1 : Int32).toInt = 1 from rfl) (by omega) (by omega)))
  refine s_X12_in w_I v1 (0 : Int32) ((I v0 0) - (1 : Int32))    (fun r5 p6 => ?_)
  have rr5 := i_rng r5
  exact hQ r5 (by omega)
set_option maxHeartbeats 4000000 in
set_option maxRecDepth 100000 in
theorem s_X12_isFamily {Z : jZ} {I : jI} {L : jL} (w_I : WD Z I) (v0 : Int32) {Q : Int32 → jI → jL → Prop} (hQ : ∀ (r : Int32), ((r.toInt = 1 ∧ (0 ≤ v0.toInt ∧ v0.toInt ≤ 7)) ∨ (r.toInt = 0 ∧ ¬ (0 ≤ v0.toInt ∧ v0.toInt ≤ 7))) → Q r I L) : f_X12_isFamily v0 Z I L Q := by
  unfold f_X12_isFamily
  have rv0 := i_rng v0
  have t1 : (0 : Int32).toInt = 0 := rfl
  have t2 : (7 : Int32).toInt = 7 := rfl
  refine s_X12_in w_I v0 (0 : Int32) (7 : Int32)    (fun r3 p4 => ?_)
  have rr3 := i_rng r3
  exact hQ r3 (by omega)
set_option maxHeartbeats 4000000 in
set_option maxRecDepth 100000 in
theorem s_X12_isOne {Z : jZ} {I : jI} {L : jL} (w_I : WD Z I) (v0 : Nat) (v1 : Int32) (kv0 : jk Z v0 12) {Q : Int32 → jI → jL → Prop} (hQ : ∀ (r : Int32), ((r.toInt = 1 ∧ (0 ≤ v1.toInt ∧ v1.toInt < (I v0 8).toInt ∧ v1.toInt ≤ 5)) ∨ (r.toInt = 0 ∧ ¬ (0 ≤ v1.toInt ∧ v1.toInt < (I v0 8).toInt ∧ v1.toInt ≤ 5))) → Q r I L) : f_X12_isOne v0 v1 Z I L Q := by
  unfold f_X12_isOne
  have rv1 := i_rng v1
  have t2 : 0 ≤ (I v0 8).toInt ∧ (I v0 8).toInt ≤ 6 := w_I.fld 12 8 kv0 (by decide)
  have t3 : (0 : Int32).toInt = 0 := rfl
  try (have t4 : ((I v0 8) - (1 : Int32)).toInt = ((I v0 8).toInt - (1)) := (i_sub rfl (show (1 : Int32).toInt = 1 from rfl) (by omega) (by omega)))
  refine s_X12_in w_I v1 (0 : Int32) ((I v0 8) - (1 : Int32))    (fun r5 p6 => ?_)
  have rr5 := i_rng r5
  exact hQ r5 (by omega)
set_option maxHeartbeats 4000000 in
set_option maxRecDepth 100000 in
theorem l_X12_mainOf_L4 {Z : jZ} {I : jI} {L : jL} {Q : Int32 → jI → jL → Prop} (w_I : WD Z I) (v0 : Nat) (v1 : Int32) (kv0 : jk Z v0 12) (p0 : 0 ≤ v1.toInt ∧ v1.toInt ≤ 23) (hQ : ∀ (r : Int32), (0 ≤ r.toInt ∧ r.toInt ≤ 7) → Q r I L) : ∀ (n : Nat) (v2 : Int32) (v3 : Int32) ,   (0 ≤ v2.toInt ∧ v2.toInt ≤ 7 ∧ 1 ≤ v3.toInt ∧ v3.toInt ≤ 8) → 8 - v3.toInt < (n : Int) → f_X12_mainOf_L4  Z Q n v0 v1 v2 v3 I L := by
  intro n
  induction n with
  | zero =>
    intro v2 v3   li  me
    exfalso
    omega
  | succ n ih =>
    intro v2 v3   li  me
    unfold f_X12_mainOf_L4
    have rv2 := i_rng v2
    have rv3 := i_rng v3
    have rv1 := i_rng v1
    refine ⟨fun c1 => ?_, fun c1 => ?_⟩
    · skip
      first | (have t2 : (8) ≤ v3.toInt := (i_le (show (8 : Int32).toInt = 8 from rfl) rfl).mp c1) | (have t2 : (8 : Int32).toInt ≤ v3.toInt := (i_le rfl rfl).mp c1) | skip
      exact hQ v2 (by omega)
    · skip
      first | (have t3 : ¬ ((8) ≤ v3.toInt) := (not_congr (i_le (show (8 : Int32).toInt = 8 from rfl) rfl)).mp c1) | (have t3 : ¬ ((8 : Int32).toInt ≤ v3.toInt) := (not_congr (i_le rfl rfl)).mp c1) | skip
      intro b4 eb4
      obtain ⟨x5, ex5, kb4, lb4⟩ := sh_f w_I.1 kv0 (j := 5) (k := 14) (m := 192) rfl
      cases eb4.symm.trans ex5
      have o6 : vp_in (((8 : Int32) * v1) + v3) 192 := vi_of (i_add (i_mul (show (8 : Int32).toInt = 8 from rfl) rfl (by omega) (by omega)) rfl (by omega) (by omega)) (by omega) (by omega)
      refine ⟨o6, ?_⟩
      intro b7 eb7
      obtain rfl : b4 = b7 := Option.some.inj (eb4.symm.trans eb7)
      have o8 : vp_in (((8 : Int32) * v1) + v2) 192 := vi_of (i_add (i_mul (show (8 : Int32).toInt = 8 from rfl) rfl (by omega) (by omega)) rfl (by omega) (by omega)) (by omega) (by omega)
      refine ⟨o8, ?_⟩
      refine ⟨fun c9 => ?_, fun c9 => ?_⟩
      · skip
        first | (have t10 : (I b4 (((8 : Int32) * v1) + v3).toNatClampNeg).toInt ≤ (I b4 (((8 : Int32) * v1) + v2).toNatClampNeg).toInt := (i_le rfl rfl).mp c9) | (have t10 : (I b4 (((8 : Int32) * v1) + v3).toNatClampNeg).toInt ≤ (I b4 (((8 : Int32) * v1) + v2).toNatClampNeg).toInt := (i_le rfl rfl).mp c9) | skip
        unfold f_X12_mainOf_b37
        intro x11 ex11
        have rx11 := i_rng x11
        first | (have tx11 : x11.toInt = v3.toInt + (1) := by (rw [ex11]; exact (i_add rfl (show (1 : Int32).toInt = 1 from rfl) (by omega) (by omega)))) | skip
        exact ih v2 x11   (by omega)  (by omega)
      · skip
        first | (have t12 : ¬ ((I b4 (((8 : Int32) * v1) + v3).toNatClampNeg).toInt ≤ (I b4 (((8 : Int32) * v1) + v2).toNatClampNeg).toInt) := (not_congr (i_le rfl rfl)).mp c9) | (have t12 : ¬ ((I b4 (((8 : Int32) * v1) + v3).toNatClampNeg).toInt ≤ (I b4 (((8 : Int32) * v1) + v2).toNatClampNeg).toInt) := (not_congr (i_le rfl rfl)).mp c9) | skip
        unfold f_X12_mainOf_b37
        intro x13 ex13
        have rx13 := i_rng x13
        first | (have tx13 : x13.toInt = v3.toInt + (1) := by (rw [ex13]; exact (i_add rfl (show (1 : Int32).toInt = 1 from rfl) (by omega) (by omega)))) | skip
        exact ih v3 x13   (by omega)  (by omega)
set_option maxHeartbeats 4000000 in
set_option maxRecDepth 100000 in
theorem s_X12_mainOf {Z : jZ} {I : jI} {L : jL} (w_I : WD Z I) (v0 : Nat) (v1 : Int32) (kv0 : jk Z v0 12) (p0 : 0 ≤ v1.toInt ∧ v1.toInt ≤ 23) {Q : Int32 → jI → jL → Prop} (hQ : ∀ (r : Int32), (0 ≤ r.toInt ∧ r.toInt ≤ 7) → Q r I L) : f_X12_mainOf v0 v1 Z I L Q := by
  unfold f_X12_mainOf
  have rv1 := i_rng v1
  have t14 : (0 : Int32).toInt = 0 := rfl
  have t15 : (1 : Int32).toInt = 1 := rfl
  exact ⟨(8 - (1 : Int32).toInt).toNat + 1, l_X12_mainOf_L4 w_I v0 v1 kv0 p0   hQ   _ (0 : Int32) (1 : Int32)   (by omega)  (by omega)⟩
def Ws_X12_sign : List (Nat × Nat) := [(12, 18), (12, 19), (12, 22)]
set_option maxHeartbeats 4000000 in
set_option maxRecDepth 100000 in
theorem l_X12_sign_L20 {Z : jZ} {I0 : jI} {Q : Int32 → jI → jL → Prop} (w0 : WD Z I0) (v0 : Nat) (v1 : Int32) (kv0 : jk Z v0 12) (hQ : ∀ (r : Int32) (I' : jI) (L' : jL), WD Z I' → FR Ws_X12_sign Z I0 Z I' → Q r I' L') : ∀ (n : Nat) (v2 : Int32) (I : jI) (L : jL), WD Z I → FR Ws_X12_sign Z I0 Z I →   (-1 ≤ v2.toInt ∧ v2.toInt ≤ 3 ∧ 0 ≤ (I v0 19).toInt ∧ (I v0 19).toInt + v2.toInt + 1 ≤ 80) → v2.toInt + 1 < (n : Int) → f_X12_sign_L20  Z Q n v0 v1 v2 I L := by
  intro n
  induction n with
  | zero =>
    intro v2 I L w_I q_I   li  me
    exfalso
    omega
  | succ n ih =>
    intro v2 I L w_I q_I   li  me
    unfold f_X12_sign_L20
    have rv2 := i_rng v2
    have rv1 := i_rng v1
    refine ⟨fun c1 => ?_, fun c1 => ?_⟩
    · skip
      first | (have t2 : v2.toInt < (0) := (i_lt rfl (show (0 : Int32).toInt = 0 from rfl)).mp c1) | (have t2 : v2.toInt < (0 : Int32).toInt := (i_lt rfl rfl).mp c1) | skip
      have t4 : 0 ≤ (I v0 19).toInt ∧ (I v0 19).toInt ≤ 80 := w_I.fld 12 19 kv0 (by decide)
      exact hQ (I v0 19) I L w_I q_I 
    · skip
      first | (have t5 : ¬ (v2.toInt < (0)) := (not_congr (i_lt rfl (show (0 : Int32).toInt = 0 from rfl))).mp c1) | (have t5 : ¬ (v2.toInt < (0 : Int32).toInt) := (not_congr (i_lt rfl rfl)).mp c1) | skip
      intro b6 eb6
      obtain ⟨x7, ex7, kb6, lb6⟩ := sh_f w_I.1 kv0 (j := 18) (k := 13) (m := 80) rfl
      cases eb6.symm.trans ex7
      have t9 : 0 ≤ (I v0 19).toInt ∧ (I v0 19).toInt ≤ 80 := w_I.fld 12 19 kv0 (by decide)
      intro I10 eI10
      try (have t11 : ((I v0 19) + (1 : Int32)).toInt = ((I v0 19).toInt + (1)) := (i_add rfl (show (1 : Int32).toInt = 1 from rfl) (by omega) (by omega)))
      have w_I10 : WD Z I10 := by rw [eI10]; exact WD_putF w_I 12 19 kv0 (by decide) (by decide) (by constructor <;> omega)
      have f_I10 : FR [(12, 19)] Z I Z I10 := by rw [eI10]; exact FR_putF kv0 (by decide) List.mem_cons_self
      have q_I10 : FR Ws_X12_sign Z I0 Z I10 := q_I.trans w0.1 w0.2.1 (f_I10.mono (by decide))
      first | (have u12 : (I10 v0 19).toInt = ((I v0 19).toInt + (1)) := by (rw [eI10, show jpI I v0 19 ((I v0 19) + (1 : Int32)) v0 19 = ((I v0 19) + (1 : Int32)) from jpI_at] <;> exact (i_add rfl (show (1 : Int32).toInt = 1 from rfl) (by omega) (by omega)))) | skip
      have o13 : vp_in (I v0 19) 80 := vi_of rfl (by omega) (by omega)
      refine ⟨o13, ?_⟩
      intro I14 eI14
      have w_I14 : WD Z I14 := by rw [eI14]; exact WD_putA w_I10 12 18 kv0 eb6 kb6 rfl rfl (by decide) trivial
      have f_I14 : FR [(12, 18)] Z I10 Z I14 := by rw [eI14]; exact FR_upA w_I10.2.1 kv0 eb6 kb6 rfl rfl List.mem_cons_self
      have q_I14 : FR Ws_X12_sign Z I0 Z I14 := q_I10.trans w0.1 w0.2.1 (f_I14.mono (by decide))
      have u15 : (I14 v0 19).toInt = (I10 v0 19).toInt := by rw [f_I14.2.2.1 v0 12 19 kv0 (by decide) (by decide)]
      intro x16 ex16
      have rx16 := i_rng x16
      first | (have tx16 : x16.toInt = v2.toInt + (-1) := by (rw [ex16]; exact (i_add rfl (show (-1 : Int32).toInt = -1 from rfl) (by omega) (by omega)))) | skip
      exact ih x16 I14 L w_I14 q_I14   (by omega)  (by omega)
set_option maxHeartbeats 4000000 in
set_option maxRecDepth 100000 in
theorem s_X12_sign {Z : jZ} {I : jI} {L : jL} (w_I : WD Z I) (v0 : Nat) (v1 : Int32) (kv0 : jk Z v0 12) {Q : Int32 → jI → jL → Prop} (hQ : ∀ (r : Int32) (I' : jI) (L' : jL), WD Z I' → FR Ws_X12_sign Z I Z I' → Q r I' L') : f_X12_sign v0 v1 Z I L Q := by
  unfold f_X12_sign
  have q_I : FR Ws_X12_sign Z I Z I := FR.rf
  have rv1 := i_rng v1
  intro I17 eI17
  have t18 : (0 : Int32).toInt = 0 := rfl
  have w_I17 : WD Z I17 := by rw [eI17]; exact WD_putF w_I 12 22 kv0 (by decide) (by decide) trivial
  have f_I17 : FR [(12, 22)] Z I Z I17 := by rw [eI17]; exact FR_putF kv0 (by decide) List.mem_cons_self
  have q_I17 : FR Ws_X12_sign Z I Z I17 := q_I.trans w_I.1 w_I.2.1 (f_I17.mono (by decide))
  first | (have u19 : (I17 v0 22).toInt = (0) := by (rw [eI17, show jpI I v0 22 (0 : Int32) v0 22 = (0 : Int32) from jpI_at] <;> exact (show (0 : Int32).toInt = 0 from rfl))) | skip
  have t21 : 0 ≤ (I17 v0 19).toInt ∧ (I17 v0 19).toInt ≤ 80 := w_I17.fld 12 19 kv0 (by decide)
  refine ⟨fun c22 => ?_, fun c22 => ?_⟩
  · skip
    first | (have t23 : ((I17 v0 19).toInt + (4)) ≤ (80) := (i_le (i_add rfl (show (4 : Int32).toInt = 4 from rfl) (by omega) (by omega)) (show (80 : Int32).toInt = 80 from rfl)).mp c22) | (have t23 : ((I17 v0 19) + (4 : Int32)).toInt ≤ (80 : Int32).toInt := (i_le rfl rfl).mp c22) | skip
    have t24 : (3 : Int32).toInt = 3 := rfl
    exact ⟨((3 : Int32).toInt + 1).toNat + 1, l_X12_sign_L20 w_I v0 v1 kv0   hQ   _ (3 : Int32) I17 L w_I17 q_I17   (by omega)  (by omega)⟩
  · skip
    first | (have t25 : ¬ (((I17 v0 19).toInt + (4)) ≤ (80)) := (not_congr (i_le (i_add rfl (show (4 : Int32).toInt = 4 from rfl) (by omega) (by omega)) (show (80 : Int32).toInt = 80 from rfl))).mp c22) | (have t25 : ¬ (((I17 v0 19) + (4 : Int32)).toInt ≤ (80 : Int32).toInt) := (not_congr (i_le rfl rfl)).mp c22) | skip
    have t26 : (-1 : Int32).toInt = -1 := rfl
    exact hQ (-1 : Int32) I17 L w_I17 q_I17 
def Ws_X12_end : List (Nat × Nat) := [(12, 19), (12, 22)]
set_option maxHeartbeats 4000000 in
set_option maxRecDepth 100000 in
theorem s_X12_end {Z : jZ} {I : jI} {L : jL} (w_I : WD Z I) (v0 : Nat) (v1 : Int32) (kv0 : jk Z v0 12) {Q : Int32 → jI → jL → Prop} (hQ : ∀ (r : Int32) (I' : jI) (L' : jL), WD Z I' → FR Ws_X12_end Z I Z I' → Q r I' L') : f_X12_end v0 v1 Z I L Q := by
  unfold f_X12_end
  have q_I : FR Ws_X12_end Z I Z I := FR.rf
  have rv1 := i_rng v1
  intro I1 eI1
  have t2 : (0 : Int32).toInt = 0 := rfl
  have w_I1 : WD Z I1 := by rw [eI1]; exact WD_putF w_I 12 22 kv0 (by decide) (by decide) trivial
  have f_I1 : FR [(12, 22)] Z I Z I1 := by rw [eI1]; exact FR_putF kv0 (by decide) List.mem_cons_self
  have q_I1 : FR Ws_X12_end Z I Z I1 := q_I.trans w_I.1 w_I.2.1 (f_I1.mono (by decide))
  first | (have u3 : (I1 v0 22).toInt = (0) := by (rw [eI1, show jpI I v0 22 (0 : Int32) v0 22 = (0 : Int32) from jpI_at] <;> exact (show (0 : Int32).toInt = 0 from rfl))) | skip
  have t5 : 0 ≤ (I1 v0 19).toInt ∧ (I1 v0 19).toInt ≤ 80 := w_I1.fld 12 19 kv0 (by decide)
  have t6 : (0 : Int32).toInt = 0 := rfl
  refine s_X12_in w_I1 v1 (0 : Int32) (I1 v0 19)    (fun r7 p8 => ?_)
  have rr7 := i_rng r7
  refine ⟨fun c9 => ?_, fun c9 => ?_⟩
  · skip
    first | (have t10 : ¬ (r7.toInt = (0)) := (not_congr (i_eq rfl (show (0 : Int32).toInt = 0 from rfl))).mp c9) | (have t10 : ¬ (r7.toInt = (0 : Int32).toInt) := (not_congr (i_eq rfl rfl)).mp c9) | skip
    intro I11 eI11
    have w_I11 : WD Z I11 := by rw [eI11]; exact WD_putF w_I1 12 19 kv0 (by decide) (by decide) (by constructor <;> omega)
    have f_I11 : FR [(12, 19)] Z I1 Z I11 := by rw [eI11]; exact FR_putF kv0 (by decide) List.mem_cons_self
    have q_I11 : FR Ws_X12_end Z I Z I11 := q_I1.trans w_I.1 w_I.2.1 (f_I11.mono (by decide))
    have u12 : (I11 v0 22).toInt = (I1 v0 22).toInt := by rw [f_I11.2.2.1 v0 12 22 kv0 (by decide) (by decide)]
    first | (have u13 : (I11 v0 19).toInt = v1.toInt := by (rw [eI11, show jpI I1 v0 19 v1 v0 19 = v1 from jpI_at] <;> exact rfl)) | skip
    have t14 : (1 : Int32).toInt = 1 := rfl
    exact hQ (1 : Int32) I11 L w_I11 q_I11 
  · skip
    first | (have t15 : r7.toInt = (0) := (i_eq rfl (show (0 : Int32).toInt = 0 from rfl)).mp c9) | (have t15 : r7.toInt = (0 : Int32).toInt := (i_eq rfl rfl).mp c9) | skip
    have t16 : (0 : Int32).toInt = 0 := rfl
    exact hQ (0 : Int32) I1 L w_I1 q_I1 
def Ws_X12_step : List (Nat × Nat) := [(12, 22)]
set_option maxHeartbeats 4000000 in
set_option maxRecDepth 100000 in
theorem s_X12_step {Z : jZ} {I : jI} {L : jL} (w_I : WD Z I) (v0 : Nat) (v1 : Int32) (v2 : Int32) (kv0 : jk Z v0 12) {Q : Int32 → jI → jL → Prop} (hQ : ∀ (r : Int32) (I' : jI) (L' : jL), WD Z I' → FR Ws_X12_step Z I Z I' → Q r I' L') : f_X12_step v0 v1 v2 Z I L Q := by
  unfold f_X12_step
  have q_I : FR Ws_X12_step Z I Z I := FR.rf
  have rv1 := i_rng v1
  have rv2 := i_rng v2
  intro I1 eI1
  have t2 : (0 : Int32).toInt = 0 := rfl
  have w_I1 : WD Z I1 := by rw [eI1]; exact WD_putF w_I 12 22 kv0 (by decide) (by decide) trivial
  have f_I1 : FR [(12, 22)] Z I Z I1 := by rw [eI1]; exact FR_putF kv0 (by decide) List.mem_cons_self
  have q_I1 : FR Ws_X12_step Z I Z I1 := q_I.trans w_I.1 w_I.2.1 (f_I1.mono (by decide))
  first | (have u3 : (I1 v0 22).toInt = (0) := by (rw [eI1, show jpI I v0 22 (0 : Int32) v0 22 = (0 : Int32) from jpI_at] <;> exact (show (0 : Int32).toInt = 0 from rfl))) | skip
  refine s_X12_isStep w_I1 v0 v1 kv0   (fun r4 p5 => ?_)
  have rr4 := i_rng r4
  refine ⟨fun c6 => ?_, fun c6 => ?_⟩
  · skip
    first | (have t7 : r4.toInt = (0) := (i_eq rfl (show (0 : Int32).toInt = 0 from rfl)).mp c6) | (have t7 : r4.toInt = (0 : Int32).toInt := (i_eq rfl rfl).mp c6) | skip
    unfold f_X12_step_b22
    refine s_X12_lost w_I1 v0 kv0   (fun r8 I9 L10 w_I9 f_I9  => ?_)
    have q_I9 : FR Ws_X12_step Z I Z I9 := q_I1.trans w_I.1 w_I.2.1 (f_I9.mono (by decide))
    have rr8 := i_rng r8
    exact hQ r8 I9 L10 w_I9 q_I9 
  · skip
    first | (have t11 : ¬ (r4.toInt = (0)) := (not_congr (i_eq rfl (show (0 : Int32).toInt = 0 from rfl))).mp c6) | (have t11 : ¬ (r4.toInt = (0 : Int32).toInt) := (not_congr (i_eq rfl rfl)).mp c6) | skip
    have t12 : (0 : Int32).toInt = 0 := rfl
    have t13 : (4 : Int32).toInt = 4 := rfl
    refine s_X12_in w_I1 v2 (0 : Int32) (4 : Int32)    (fun r14 p15 => ?_)
    have rr14 := i_rng r14
    refine ⟨fun c16 => ?_, fun c16 => ?_⟩
    · skip
      first | (have t17 : ¬ (r14.toInt = (0)) := (not_congr (i_eq rfl (show (0 : Int32).toInt = 0 from rfl))).mp c16) | (have t17 : ¬ (r14.toInt = (0 : Int32).toInt) := (not_congr (i_eq rfl rfl)).mp c16) | skip
      refine ⟨fun c18 => ?_, fun c18 => ?_⟩
      · skip
        first | (have t19 : ¬ (v2.toInt = (0)) := (not_congr (i_eq rfl (show (0 : Int32).toInt = 0 from rfl))).mp c18) | (have t19 : ¬ (v2.toInt = (0 : Int32).toInt) := (not_congr (i_eq rfl rfl)).mp c18) | skip
        refine ⟨fun c20 => ?_, fun c20 => ?_⟩
        · skip
          first | (have t21 : ¬ (v2.toInt = (1)) := (not_congr (i_eq rfl (show (1 : Int32).toInt = 1 from rfl))).mp c20) | (have t21 : ¬ (v2.toInt = (1 : Int32).toInt) := (not_congr (i_eq rfl rfl)).mp c20) | skip
          refine ⟨fun c22 => ?_, fun c22 => ?_⟩
          · skip
            first | (have t23 : ¬ (v2.toInt = (2)) := (not_congr (i_eq rfl (show (2 : Int32).toInt = 2 from rfl))).mp c22) | (have t23 : ¬ (v2.toInt = (2 : Int32).toInt) := (not_congr (i_eq rfl rfl)).mp c22) | skip
            refine ⟨fun c24 => ?_, fun c24 => ?_⟩
            · skip
              first | (have t25 : ¬ (v2.toInt = (3)) := (not_congr (i_eq rfl (show (3 : Int32).toInt = 3 from rfl))).mp c24) | (have t25 : ¬ (v2.toInt = (3 : Int32).toInt) := (not_congr (i_eq rfl rfl)).mp c24) | skip
              refine s_X12_mainOf w_I1 v0 v1 kv0  (by omega) (fun r26 p27 => ?_)
              have rr26 := i_rng r26
              exact hQ r26 I1 L w_I1 q_I1 
            · skip
              first | (have t28 : v2.toInt = (3) := (i_eq rfl (show (3 : Int32).toInt = 3 from rfl)).mp c24) | (have t28 : v2.toInt = (3 : Int32).toInt := (i_eq rfl rfl).mp c24) | skip
              intro b29 eb29
              obtain ⟨x30, ex30, kb29, lb29⟩ := sh_f w_I1.1 kv0 (j := 4) (k := 16) (m := 24) rfl
              cases eb29.symm.trans ex30
              have o31 : vp_in v1 24 := vi_of rfl (by omega) (by omega)
              refine ⟨o31, ?_⟩
              refine ⟨fun c32 => ?_, fun c32 => ?_⟩
              · skip
                first | (have t33 : (I1 b29 v1.toNatClampNeg).toInt = (0) := (i_eq rfl (show (0 : Int32).toInt = 0 from rfl)).mp c32) | (have t33 : (I1 b29 v1.toNatClampNeg).toInt = (0 : Int32).toInt := (i_eq rfl rfl).mp c32) | skip
                have t34 : (0 : Int32).toInt = 0 := rfl
                exact hQ (0 : Int32) I1 L w_I1 q_I1 
              · skip
                first | (have t35 : ¬ ((I1 b29 v1.toNatClampNeg).toInt = (0)) := (not_congr (i_eq rfl (show (0 : Int32).toInt = 0 from rfl))).mp c32) | (have t35 : ¬ ((I1 b29 v1.toNatClampNeg).toInt = (0 : Int32).toInt) := (not_congr (i_eq rfl rfl)).mp c32) | skip
                have t36 : (1 : Int32).toInt = 1 := rfl
                exact hQ (1 : Int32) I1 L w_I1 q_I1 
          · skip
            first | (have t37 : v2.toInt = (2) := (i_eq rfl (show (2 : Int32).toInt = 2 from rfl)).mp c22) | (have t37 : v2.toInt = (2 : Int32).toInt := (i_eq rfl rfl).mp c22) | skip
            intro b38 eb38
            obtain ⟨x39, ex39, kb38, lb38⟩ := sh_f w_I1.1 kv0 (j := 3) (k := 14) (m := 24) rfl
            cases eb38.symm.trans ex39
            have o40 : vp_in v1 24 := vi_of rfl (by omega) (by omega)
            refine ⟨o40, ?_⟩
            have t41 : 0 ≤ (I1 b38 v1.toNatClampNeg).toInt ∧ (I1 b38 v1.toNatClampNeg).toInt ≤ 20 := w_I1.arr 12 3 kv0 eb38 kb38 rfl rfl _
            exact hQ (I1 b38 v1.toNatClampNeg) I1 L w_I1 q_I1 
        · skip
          first | (have t42 : v2.toInt = (1) := (i_eq rfl (show (1 : Int32).toInt = 1 from rfl)).mp c20) | (have t42 : v2.toInt = (1 : Int32).toInt := (i_eq rfl rfl).mp c20) | skip
          intro b43 eb43
          obtain ⟨x44, ex44, kb43, lb43⟩ := sh_f w_I1.1 kv0 (j := 2) (k := 14) (m := 24) rfl
          cases eb43.symm.trans ex44
          have o45 : vp_in v1 24 := vi_of rfl (by omega) (by omega)
          refine ⟨o45, ?_⟩
          have t46 : 0 ≤ (I1 b43 v1.toNatClampNeg).toInt ∧ (I1 b43 v1.toNatClampNeg).toInt ≤ 9 := w_I1.arr 12 2 kv0 eb43 kb43 rfl rfl _
          exact hQ (I1 b43 v1.toNatClampNeg) I1 L w_I1 q_I1 
      · skip
        first | (have t47 : v2.toInt = (0) := (i_eq rfl (show (0 : Int32).toInt = 0 from rfl)).mp c18) | (have t47 : v2.toInt = (0 : Int32).toInt := (i_eq rfl rfl).mp c18) | skip
        intro b48 eb48
        obtain ⟨x49, ex49, kb48, lb48⟩ := sh_f w_I1.1 kv0 (j := 1) (k := 14) (m := 24) rfl
        cases eb48.symm.trans ex49
        have o50 : vp_in v1 24 := vi_of rfl (by omega) (by omega)
        refine ⟨o50, ?_⟩
        have t51 : 0 ≤ (I1 b48 v1.toNatClampNeg).toInt ∧ (I1 b48 v1.toNatClampNeg).toInt ≤ 30 := w_I1.arr 12 1 kv0 eb48 kb48 rfl rfl _
        exact hQ (I1 b48 v1.toNatClampNeg) I1 L w_I1 q_I1 
    · skip
      first | (have t52 : r14.toInt = (0) := (i_eq rfl (show (0 : Int32).toInt = 0 from rfl)).mp c16) | (have t52 : r14.toInt = (0 : Int32).toInt := (i_eq rfl rfl).mp c16) | skip
      unfold f_X12_step_b22
      refine s_X12_lost w_I1 v0 kv0   (fun r53 I54 L55 w_I54 f_I54  => ?_)
      have q_I54 : FR Ws_X12_step Z I Z I54 := q_I1.trans w_I.1 w_I.2.1 (f_I54.mono (by decide))
      have rr53 := i_rng r53
      exact hQ r53 I54 L55 w_I54 q_I54 
def Ws_X12_set : List (Nat × Nat) := [(12, 2), (12, 3), (12, 22)]
set_option maxHeartbeats 4000000 in
set_option maxRecDepth 100000 in
theorem s_X12_set {Z : jZ} {I : jI} {L : jL} (w_I : WD Z I) (v0 : Nat) (v1 : Int32) (v2 : Int32) (v3 : Int32) (kv0 : jk Z v0 12) {Q : Int32 → jI → jL → Prop} (hQ : ∀ (r : Int32) (I' : jI) (L' : jL), WD Z I' → FR Ws_X12_set Z I Z I' → Q r I' L') : f_X12_set v0 v1 v2 v3 Z I L Q := by
  unfold f_X12_set
  have q_I : FR Ws_X12_set Z I Z I := FR.rf
  have rv1 := i_rng v1
  have rv2 := i_rng v2
  have rv3 := i_rng v3
  intro I1 eI1
  have t2 : (0 : Int32).toInt = 0 := rfl
  have w_I1 : WD Z I1 := by rw [eI1]; exact WD_putF w_I 12 22 kv0 (by decide) (by decide) trivial
  have f_I1 : FR [(12, 22)] Z I Z I1 := by rw [eI1]; exact FR_putF kv0 (by decide) List.mem_cons_self
  have q_I1 : FR Ws_X12_set Z I Z I1 := q_I.trans w_I.1 w_I.2.1 (f_I1.mono (by decide))
  first | (have u3 : (I1 v0 22).toInt = (0) := by (rw [eI1, show jpI I v0 22 (0 : Int32) v0 22 = (0 : Int32) from jpI_at] <;> exact (show (0 : Int32).toInt = 0 from rfl))) | skip
  refine s_X12_isStep w_I1 v0 v1 kv0   (fun r4 p5 => ?_)
  have rr4 := i_rng r4
  refine ⟨fun c6 => ?_, fun c6 => ?_⟩
  · skip
    first | (have t7 : r4.toInt = (0) := (i_eq rfl (show (0 : Int32).toInt = 0 from rfl)).mp c6) | (have t7 : r4.toInt = (0 : Int32).toInt := (i_eq rfl rfl).mp c6) | skip
    have t8 : (-1 : Int32).toInt = -1 := rfl
    exact hQ (-1 : Int32) I1 L w_I1 q_I1 
  · skip
    first | (have t9 : ¬ (r4.toInt = (0)) := (not_congr (i_eq rfl (show (0 : Int32).toInt = 0 from rfl))).mp c6) | (have t9 : ¬ (r4.toInt = (0 : Int32).toInt) := (not_congr (i_eq rfl rfl)).mp c6) | skip
    have t10 : (0 : Int32).toInt = 0 := rfl
    have t11 : (1 : Int32).toInt = 1 := rfl
    refine s_X12_in w_I1 v2 (0 : Int32) (1 : Int32)    (fun r12 p13 => ?_)
    have rr12 := i_rng r12
    refine ⟨fun c14 => ?_, fun c14 => ?_⟩
    · skip
      first | (have t15 : r12.toInt = (0) := (i_eq rfl (show (0 : Int32).toInt = 0 from rfl)).mp c14) | (have t15 : r12.toInt = (0 : Int32).toInt := (i_eq rfl rfl).mp c14) | skip
      have t16 : (-1 : Int32).toInt = -1 := rfl
      exact hQ (-1 : Int32) I1 L w_I1 q_I1 
    · skip
      first | (have t17 : ¬ (r12.toInt = (0)) := (not_congr (i_eq rfl (show (0 : Int32).toInt = 0 from rfl))).mp c14) | (have t17 : ¬ (r12.toInt = (0 : Int32).toInt) := (not_congr (i_eq rfl rfl)).mp c14) | skip
      refine ⟨fun c18 => ?_, fun c18 => ?_⟩
      · skip
        first | (have t19 : ¬ (v2.toInt = (0)) := (not_congr (i_eq rfl (show (0 : Int32).toInt = 0 from rfl))).mp c18) | (have t19 : ¬ (v2.toInt = (0 : Int32).toInt) := (not_congr (i_eq rfl rfl)).mp c18) | skip
        unfold f_X12_set_b35
        have t20 : (0 : Int32).toInt = 0 := rfl
        have t21 : (9 : Int32).toInt = 9 := rfl
        refine s_X12_in w_I1 v3 (0 : Int32) (9 : Int32)    (fun r22 p23 => ?_)
        have rr22 := i_rng r22
        refine ⟨fun c24 => ?_, fun c24 => ?_⟩
        · skip
          first | (have t25 : ¬ (r22.toInt = (0)) := (not_congr (i_eq rfl (show (0 : Int32).toInt = 0 from rfl))).mp c24) | (have t25 : ¬ (r22.toInt = (0 : Int32).toInt) := (not_congr (i_eq rfl rfl)).mp c24) | skip
          refine ⟨fun c26 => ?_, fun c26 => ?_⟩
          · skip
            first | (have t27 : ¬ (v2.toInt = (0)) := (not_congr (i_eq rfl (show (0 : Int32).toInt = 0 from rfl))).mp c26) | (have t27 : ¬ (v2.toInt = (0 : Int32).toInt) := (not_congr (i_eq rfl rfl)).mp c26) | skip
            intro b28 eb28
            obtain ⟨x29, ex29, kb28, lb28⟩ := sh_f w_I1.1 kv0 (j := 2) (k := 14) (m := 24) rfl
            cases eb28.symm.trans ex29
            have o30 : vp_in v1 24 := vi_of rfl (by omega) (by omega)
            refine ⟨o30, ?_⟩
            have t31 : 0 ≤ (I1 b28 v1.toNatClampNeg).toInt ∧ (I1 b28 v1.toNatClampNeg).toInt ≤ 9 := w_I1.arr 12 2 kv0 eb28 kb28 rfl rfl _
            unfold f_X12_set_b62
            refine ⟨fun c32 => ?_, fun c32 => ?_⟩
            · skip
              first | (have t33 : ¬ (v2.toInt = (0)) := (not_congr (i_eq rfl (show (0 : Int32).toInt = 0 from rfl))).mp c32) | (have t33 : ¬ (v2.toInt = (0 : Int32).toInt) := (not_congr (i_eq rfl rfl)).mp c32) | skip
              intro b34 eb34
              obtain rfl : b28 = b34 := Option.some.inj (eb28.symm.trans eb34)
              have o35 : vp_in v1 24 := vi_of rfl (by omega) (by omega)
              refine ⟨o35, ?_⟩
              intro I36 eI36
              have w_I36 : WD Z I36 := by rw [eI36]; exact WD_putA w_I1 12 2 kv0 eb28 kb28 rfl rfl (by decide) (by constructor <;> omega)
              have f_I36 : FR [(12, 2)] Z I1 Z I36 := by rw [eI36]; exact FR_upA w_I1.2.1 kv0 eb28 kb28 rfl rfl List.mem_cons_self
              have q_I36 : FR Ws_X12_set Z I Z I36 := q_I1.trans w_I.1 w_I.2.1 (f_I36.mono (by decide))
              have u37 : (I36 v0 22).toInt = (I1 v0 22).toInt := by rw [f_I36.2.2.1 v0 12 22 kv0 (by decide) (by decide)]
              exact hQ (I1 b28 v1.toNatClampNeg) I36 L w_I36 q_I36 
            · skip
              first | (have t38 : v2.toInt = (0) := (i_eq rfl (show (0 : Int32).toInt = 0 from rfl)).mp c32) | (have t38 : v2.toInt = (0 : Int32).toInt := (i_eq rfl rfl).mp c32) | skip
              intro b39 eb39
              obtain ⟨x40, ex40, kb39, lb39⟩ := sh_f w_I1.1 kv0 (j := 3) (k := 14) (m := 24) rfl
              cases eb39.symm.trans ex40
              have o41 : vp_in v1 24 := vi_of rfl (by omega) (by omega)
              refine ⟨o41, ?_⟩
              intro I42 eI42
              have w_I42 : WD Z I42 := by rw [eI42]; exact WD_putA w_I1 12 3 kv0 eb39 kb39 rfl rfl (by decide) (by constructor <;> omega)
              have f_I42 : FR [(12, 3)] Z I1 Z I42 := by rw [eI42]; exact FR_upA w_I1.2.1 kv0 eb39 kb39 rfl rfl List.mem_cons_self
              have q_I42 : FR Ws_X12_set Z I Z I42 := q_I1.trans w_I.1 w_I.2.1 (f_I42.mono (by decide))
              have u43 : (I42 v0 22).toInt = (I1 v0 22).toInt := by rw [f_I42.2.2.1 v0 12 22 kv0 (by decide) (by decide)]
              exact hQ (I1 b28 v1.toNatClampNeg) I42 L w_I42 q_I42 
          · skip
            first | (have t44 : v2.toInt = (0) := (i_eq rfl (show (0 : Int32).toInt = 0 from rfl)).mp c26) | (have t44 : v2.toInt = (0 : Int32).toInt := (i_eq rfl rfl).mp c26) | skip
            intro b45 eb45
            obtain ⟨x46, ex46, kb45, lb45⟩ := sh_f w_I1.1 kv0 (j := 3) (k := 14) (m := 24) rfl
            cases eb45.symm.trans ex46
            have o47 : vp_in v1 24 := vi_of rfl (by omega) (by omega)
            refine ⟨o47, ?_⟩
            have t48 : 0 ≤ (I1 b45 v1.toNatClampNeg).toInt ∧ (I1 b45 v1.toNatClampNeg).toInt ≤ 20 := w_I1.arr 12 3 kv0 eb45 kb45 rfl rfl _
            unfold f_X12_set_b62
            refine ⟨fun c49 => ?_, fun c49 => ?_⟩
            · skip
              first | (have t50 : ¬ (v2.toInt = (0)) := (not_congr (i_eq rfl (show (0 : Int32).toInt = 0 from rfl))).mp c49) | (have t50 : ¬ (v2.toInt = (0 : Int32).toInt) := (not_congr (i_eq rfl rfl)).mp c49) | skip
              intro b51 eb51
              obtain ⟨x52, ex52, kb51, lb51⟩ := sh_f w_I1.1 kv0 (j := 2) (k := 14) (m := 24) rfl
              cases eb51.symm.trans ex52
              have o53 : vp_in v1 24 := vi_of rfl (by omega) (by omega)
              refine ⟨o53, ?_⟩
              intro I54 eI54
              have w_I54 : WD Z I54 := by rw [eI54]; exact WD_putA w_I1 12 2 kv0 eb51 kb51 rfl rfl (by decide) (by constructor <;> omega)
              have f_I54 : FR [(12, 2)] Z I1 Z I54 := by rw [eI54]; exact FR_upA w_I1.2.1 kv0 eb51 kb51 rfl rfl List.mem_cons_self
              have q_I54 : FR Ws_X12_set Z I Z I54 := q_I1.trans w_I.1 w_I.2.1 (f_I54.mono (by decide))
              have u55 : (I54 v0 22).toInt = (I1 v0 22).toInt := by rw [f_I54.2.2.1 v0 12 22 kv0 (by decide) (by decide)]
              exact hQ (I1 b45 v1.toNatClampNeg) I54 L w_I54 q_I54 
            · skip
              first | (have t56 : v2.toInt = (0) := (i_eq rfl (show (0 : Int32).toInt = 0 from rfl)).mp c49) | (have t56 : v2.toInt = (0 : Int32).toInt := (i_eq rfl rfl).mp c49) | skip
              intro b57 eb57
              obtain rfl : b45 = b57 := Option.some.inj (eb45.symm.trans eb57)
              have o58 : vp_in v1 24 := vi_of rfl (by omega) (by omega)
              refine ⟨o58, ?_⟩
              intro I59 eI59
              have w_I59 : WD Z I59 := by rw [eI59]; exact WD_putA w_I1 12 3 kv0 eb45 kb45 rfl rfl (by decide) (by constructor <;> omega)
              have f_I59 : FR [(12, 3)] Z I1 Z I59 := by rw [eI59]; exact FR_upA w_I1.2.1 kv0 eb45 kb45 rfl rfl List.mem_cons_self
              have q_I59 : FR Ws_X12_set Z I Z I59 := q_I1.trans w_I.1 w_I.2.1 (f_I59.mono (by decide))
              have u60 : (I59 v0 22).toInt = (I1 v0 22).toInt := by rw [f_I59.2.2.1 v0 12 22 kv0 (by decide) (by decide)]
              exact hQ (I1 b45 v1.toNatClampNeg) I59 L w_I59 q_I59 
        · skip
          first | (have t61 : r22.toInt = (0) := (i_eq rfl (show (0 : Int32).toInt = 0 from rfl)).mp c24) | (have t61 : r22.toInt = (0 : Int32).toInt := (i_eq rfl rfl).mp c24) | skip
          have t62 : (-1 : Int32).toInt = -1 := rfl
          exact hQ (-1 : Int32) I1 L w_I1 q_I1 
      · skip
        first | (have t63 : v2.toInt = (0) := (i_eq rfl (show (0 : Int32).toInt = 0 from rfl)).mp c18) | (have t63 : v2.toInt = (0 : Int32).toInt := (i_eq rfl rfl).mp c18) | skip
        unfold f_X12_set_b35
        have t64 : (0 : Int32).toInt = 0 := rfl
        have t65 : (20 : Int32).toInt = 20 := rfl
        refine s_X12_in w_I1 v3 (0 : Int32) (20 : Int32)    (fun r66 p67 => ?_)
        have rr66 := i_rng r66
        refine ⟨fun c68 => ?_, fun c68 => ?_⟩
        · skip
          first | (have t69 : ¬ (r66.toInt = (0)) := (not_congr (i_eq rfl (show (0 : Int32).toInt = 0 from rfl))).mp c68) | (have t69 : ¬ (r66.toInt = (0 : Int32).toInt) := (not_congr (i_eq rfl rfl)).mp c68) | skip
          refine ⟨fun c70 => ?_, fun c70 => ?_⟩
          · skip
            first | (have t71 : ¬ (v2.toInt = (0)) := (not_congr (i_eq rfl (show (0 : Int32).toInt = 0 from rfl))).mp c70) | (have t71 : ¬ (v2.toInt = (0 : Int32).toInt) := (not_congr (i_eq rfl rfl)).mp c70) | skip
            intro b72 eb72
            obtain ⟨x73, ex73, kb72, lb72⟩ := sh_f w_I1.1 kv0 (j := 2) (k := 14) (m := 24) rfl
            cases eb72.symm.trans ex73
            have o74 : vp_in v1 24 := vi_of rfl (by omega) (by omega)
            refine ⟨o74, ?_⟩
            have t75 : 0 ≤ (I1 b72 v1.toNatClampNeg).toInt ∧ (I1 b72 v1.toNatClampNeg).toInt ≤ 9 := w_I1.arr 12 2 kv0 eb72 kb72 rfl rfl _
            unfold f_X12_set_b62
            refine ⟨fun c76 => ?_, fun c76 => ?_⟩
            · skip
              first | (have t77 : ¬ (v2.toInt = (0)) := (not_congr (i_eq rfl (show (0 : Int32).toInt = 0 from rfl))).mp c76) | (have t77 : ¬ (v2.toInt = (0 : Int32).toInt) := (not_congr (i_eq rfl rfl)).mp c76) | skip
              intro b78 eb78
              obtain rfl : b72 = b78 := Option.some.inj (eb72.symm.trans eb78)
              have o79 : vp_in v1 24 := vi_of rfl (by omega) (by omega)
              refine ⟨o79, ?_⟩
              intro I80 eI80
              have w_I80 : WD Z I80 := by rw [eI80]; exact WD_putA w_I1 12 2 kv0 eb72 kb72 rfl rfl (by decide) (by constructor <;> omega)
              have f_I80 : FR [(12, 2)] Z I1 Z I80 := by rw [eI80]; exact FR_upA w_I1.2.1 kv0 eb72 kb72 rfl rfl List.mem_cons_self
              have q_I80 : FR Ws_X12_set Z I Z I80 := q_I1.trans w_I.1 w_I.2.1 (f_I80.mono (by decide))
              have u81 : (I80 v0 22).toInt = (I1 v0 22).toInt := by rw [f_I80.2.2.1 v0 12 22 kv0 (by decide) (by decide)]
              exact hQ (I1 b72 v1.toNatClampNeg) I80 L w_I80 q_I80 
            · skip
              first | (have t82 : v2.toInt = (0) := (i_eq rfl (show (0 : Int32).toInt = 0 from rfl)).mp c76) | (have t82 : v2.toInt = (0 : Int32).toInt := (i_eq rfl rfl).mp c76) | skip
              intro b83 eb83
              obtain ⟨x84, ex84, kb83, lb83⟩ := sh_f w_I1.1 kv0 (j := 3) (k := 14) (m := 24) rfl
              cases eb83.symm.trans ex84
              have o85 : vp_in v1 24 := vi_of rfl (by omega) (by omega)
              refine ⟨o85, ?_⟩
              intro I86 eI86
              have w_I86 : WD Z I86 := by rw [eI86]; exact WD_putA w_I1 12 3 kv0 eb83 kb83 rfl rfl (by decide) (by constructor <;> omega)
              have f_I86 : FR [(12, 3)] Z I1 Z I86 := by rw [eI86]; exact FR_upA w_I1.2.1 kv0 eb83 kb83 rfl rfl List.mem_cons_self
              have q_I86 : FR Ws_X12_set Z I Z I86 := q_I1.trans w_I.1 w_I.2.1 (f_I86.mono (by decide))
              have u87 : (I86 v0 22).toInt = (I1 v0 22).toInt := by rw [f_I86.2.2.1 v0 12 22 kv0 (by decide) (by decide)]
              exact hQ (I1 b72 v1.toNatClampNeg) I86 L w_I86 q_I86 
          · skip
            first | (have t88 : v2.toInt = (0) := (i_eq rfl (show (0 : Int32).toInt = 0 from rfl)).mp c70) | (have t88 : v2.toInt = (0 : Int32).toInt := (i_eq rfl rfl).mp c70) | skip
            intro b89 eb89
            obtain ⟨x90, ex90, kb89, lb89⟩ := sh_f w_I1.1 kv0 (j := 3) (k := 14) (m := 24) rfl
            cases eb89.symm.trans ex90
            have o91 : vp_in v1 24 := vi_of rfl (by omega) (by omega)
            refine ⟨o91, ?_⟩
            have t92 : 0 ≤ (I1 b89 v1.toNatClampNeg).toInt ∧ (I1 b89 v1.toNatClampNeg).toInt ≤ 20 := w_I1.arr 12 3 kv0 eb89 kb89 rfl rfl _
            unfold f_X12_set_b62
            refine ⟨fun c93 => ?_, fun c93 => ?_⟩
            · skip
              first | (have t94 : ¬ (v2.toInt = (0)) := (not_congr (i_eq rfl (show (0 : Int32).toInt = 0 from rfl))).mp c93) | (have t94 : ¬ (v2.toInt = (0 : Int32).toInt) := (not_congr (i_eq rfl rfl)).mp c93) | skip
              intro b95 eb95
              obtain ⟨x96, ex96, kb95, lb95⟩ := sh_f w_I1.1 kv0 (j := 2) (k := 14) (m := 24) rfl
              cases eb95.symm.trans ex96
              have o97 : vp_in v1 24 := vi_of rfl (by omega) (by omega)
              refine ⟨o97, ?_⟩
              intro I98 eI98
              have w_I98 : WD Z I98 := by rw [eI98]; exact WD_putA w_I1 12 2 kv0 eb95 kb95 rfl rfl (by decide) (by constructor <;> omega)
              have f_I98 : FR [(12, 2)] Z I1 Z I98 := by rw [eI98]; exact FR_upA w_I1.2.1 kv0 eb95 kb95 rfl rfl List.mem_cons_self
              have q_I98 : FR Ws_X12_set Z I Z I98 := q_I1.trans w_I.1 w_I.2.1 (f_I98.mono (by decide))
              have u99 : (I98 v0 22).toInt = (I1 v0 22).toInt := by rw [f_I98.2.2.1 v0 12 22 kv0 (by decide) (by decide)]
              exact hQ (I1 b89 v1.toNatClampNeg) I98 L w_I98 q_I98 
            · skip
              first | (have t100 : v2.toInt = (0) := (i_eq rfl (show (0 : Int32).toInt = 0 from rfl)).mp c93) | (have t100 : v2.toInt = (0 : Int32).toInt := (i_eq rfl rfl).mp c93) | skip
              intro b101 eb101
              obtain rfl : b89 = b101 := Option.some.inj (eb89.symm.trans eb101)
              have o102 : vp_in v1 24 := vi_of rfl (by omega) (by omega)
              refine ⟨o102, ?_⟩
              intro I103 eI103
              have w_I103 : WD Z I103 := by rw [eI103]; exact WD_putA w_I1 12 3 kv0 eb89 kb89 rfl rfl (by decide) (by constructor <;> omega)
              have f_I103 : FR [(12, 3)] Z I1 Z I103 := by rw [eI103]; exact FR_upA w_I1.2.1 kv0 eb89 kb89 rfl rfl List.mem_cons_self
              have q_I103 : FR Ws_X12_set Z I Z I103 := q_I1.trans w_I.1 w_I.2.1 (f_I103.mono (by decide))
              have u104 : (I103 v0 22).toInt = (I1 v0 22).toInt := by rw [f_I103.2.2.1 v0 12 22 kv0 (by decide) (by decide)]
              exact hQ (I1 b89 v1.toNatClampNeg) I103 L w_I103 q_I103 
        · skip
          first | (have t105 : r66.toInt = (0) := (i_eq rfl (show (0 : Int32).toInt = 0 from rfl)).mp c68) | (have t105 : r66.toInt = (0 : Int32).toInt := (i_eq rfl rfl).mp c68) | skip
          have t106 : (-1 : Int32).toInt = -1 := rfl
          exact hQ (-1 : Int32) I1 L w_I1 q_I1 
def Ws_X12_sheet : List (Nat × Nat) := [(12, 3), (12, 22)]
set_option maxHeartbeats 4000000 in
set_option maxRecDepth 100000 in
theorem l_X12_sheet_L43 {Z : jZ} {I0 : jI} {Q : Int32 → jI → jL → Prop} (w0 : WD Z I0) (v0 : Nat) (v1 : Int32) (v2 : Int32) (v3 : Int32) (v4 : Int32) (kv0 : jk Z v0 12) (hQ : ∀ (r : Int32) (I' : jI) (L' : jL), WD Z I' → FR Ws_X12_sheet Z I0 Z I' → Q r I' L') : ∀ (n : Nat) (v5 : Int32) (v6 : Int32) (v7 : Int32) (I : jI) (L : jL), WD Z I → FR Ws_X12_sheet Z I0 Z I →   (0 ≤ v7.toInt ∧ v7.toInt ≤ 24) → 24 - v7.toInt < (n : Int) → f_X12_sheet_L43  Z Q n v0 v1 v2 v4 v5 v6 v7 I L := by
  intro n
  induction n with
  | zero =>
    intro v5 v6 v7 I L w_I q_I   li  me
    exfalso
    omega
  | succ n ih =>
    intro v5 v6 v7 I L w_I q_I   li  me
    unfold f_X12_sheet_L43
    have rv5 := i_rng v5
    have rv6 := i_rng v6
    have rv7 := i_rng v7
    have rv1 := i_rng v1
    have rv2 := i_rng v2
    have rv3 := i_rng v3
    have rv4 := i_rng v4
    have t2 : 0 ≤ (I v0 0).toInt ∧ (I v0 0).toInt ≤ 24 := w_I.fld 12 0 kv0 (by decide)
    refine ⟨fun c3 => ?_, fun c3 => ?_⟩
    · skip
      first | (have t4 : (I v0 0).toInt ≤ v7.toInt := (i_le rfl rfl).mp c3) | (have t4 : (I v0 0).toInt ≤ v7.toInt := (i_le rfl rfl).mp c3) | skip
      refine ⟨fun c5 => ?_, fun c5 => ?_⟩
      · skip
        first | (have t6 : ¬ (v1.toInt = (3)) := (not_congr (i_eq rfl (show (3 : Int32).toInt = 3 from rfl))).mp c5) | (have t6 : ¬ (v1.toInt = (3 : Int32).toInt) := (not_congr (i_eq rfl rfl)).mp c5) | skip
        exact hQ v5 I L w_I q_I 
      · skip
        first | (have t7 : v1.toInt = (3) := (i_eq rfl (show (3 : Int32).toInt = 3 from rfl)).mp c5) | (have t7 : v1.toInt = (3 : Int32).toInt := (i_eq rfl rfl).mp c5) | skip
        have t8 : (-3 : Int32).toInt = -3 := rfl
        exact hQ (-3 : Int32) I L w_I q_I 
    · skip
      first | (have t9 : ¬ ((I v0 0).toInt ≤ v7.toInt) := (not_congr (i_le rfl rfl)).mp c3) | (have t9 : ¬ ((I v0 0).toInt ≤ v7.toInt) := (not_congr (i_le rfl rfl)).mp c3) | skip
      refine ⟨fun c10 => ?_, fun c10 => ?_⟩
      · skip
        first | (have t11 : ¬ (v1.toInt = (0)) := (not_congr (i_eq rfl (show (0 : Int32).toInt = 0 from rfl))).mp c10) | (have t11 : ¬ (v1.toInt = (0 : Int32).toInt) := (not_congr (i_eq rfl rfl)).mp c10) | skip
        refine ⟨fun c12 => ?_, fun c12 => ?_⟩
        · skip
          first | (have t13 : ¬ (v1.toInt = (1)) := (not_congr (i_eq rfl (show (1 : Int32).toInt = 1 from rfl))).mp c12) | (have t13 : ¬ (v1.toInt = (1 : Int32).toInt) := (not_congr (i_eq rfl rfl)).mp c12) | skip
          unfold f_X12_sheet_b75
          intro b14 eb14
          obtain ⟨x15, ex15, kb14, lb14⟩ := sh_f w_I.1 kv0 (j := 3) (k := 14) (m := 24) rfl
          cases eb14.symm.trans ex15
          refine ⟨fun c16 => ?_, fun c16 => ?_⟩
          · skip
            first | (have t17 : v1.toInt = (3) := (i_eq rfl (show (3 : Int32).toInt = 3 from rfl)).mp c16) | (have t17 : v1.toInt = (3 : Int32).toInt := (i_eq rfl rfl).mp c16) | skip
            unfold f_X12_sheet_b94
            unfold f_X12_sheet_b109
            have o18 : vp_in v7 (jlen Z b14) := vi_of rfl (by omega) (by omega)
            refine ⟨o18, ?_⟩
            intro I19 eI19
            have t20 : (0 : Int32).toInt = 0 := rfl
            have w_I19 : WD Z I19 := by rw [eI19]; exact WD_putA w_I 12 3 kv0 eb14 kb14 rfl rfl (by decide) (by constructor <;> omega)
            have f_I19 : FR [(12, 3)] Z I Z I19 := by rw [eI19]; exact FR_upA w_I.2.1 kv0 eb14 kb14 rfl rfl List.mem_cons_self
            have q_I19 : FR Ws_X12_sheet Z I0 Z I19 := q_I.trans w0.1 w0.2.1 (f_I19.mono (by decide))
            have u21 : (I19 v0 0).toInt = (I v0 0).toInt := by rw [f_I19.2.2.1 v0 12 0 kv0 (by decide) (by decide)]
            intro b22 eb22
            obtain rfl : b14 = b22 := Option.some.inj (eb14.symm.trans eb22)
            have o23 : vp_in v7 24 := vi_of rfl (by omega) (by omega)
            refine ⟨o23, ?_⟩
            have t24 : 0 ≤ (I19 b14 v7.toNatClampNeg).toInt ∧ (I19 b14 v7.toNatClampNeg).toInt ≤ 20 := w_I19.arr 12 3 kv0 eb14 kb14 rfl rfl _
            intro x25 ex25
            have rx25 := i_rng x25
            first | (have tx25 : x25.toInt = (v5.toInt + (I19 b14 v7.toNatClampNeg).toInt) := by (rw [ex25]; exact (i_add rfl rfl (by omega) (by omega)))) | (have tx25 : x25.toInt = (v5 + (I19 b14 v7.toNatClampNeg)).toInt := by rw [ex25])
            intro x26 ex26
            have rx26 := i_rng x26
            first | (have tx26 : x26.toInt = (v6.toInt + v4.toInt) := by (rw [ex26]; exact (i_add rfl rfl (by omega) (by omega)))) | (have tx26 : x26.toInt = (v6 + v4).toInt := by rw [ex26])
            intro x27 ex27
            have rx27 := i_rng x27
            first | (have tx27 : x27.toInt = v7.toInt + (1) := by (rw [ex27]; exact (i_add rfl (show (1 : Int32).toInt = 1 from rfl) (by omega) (by omega)))) | skip
            exact ih x25 x26 x27 I19 L w_I19 q_I19   (by omega)  (by omega)
          · skip
            first | (have t28 : ¬ (v1.toInt = (3)) := (not_congr (i_eq rfl (show (3 : Int32).toInt = 3 from rfl))).mp c16) | (have t28 : ¬ (v1.toInt = (3 : Int32).toInt) := (not_congr (i_eq rfl rfl)).mp c16) | skip
            refine ⟨fun c29 => ?_, fun c29 => ?_⟩
            · skip
              first | (have t30 : v7.toInt < v2.toInt := (i_lt rfl rfl).mp c29) | (have t30 : v7.toInt < v2.toInt := (i_lt rfl rfl).mp c29) | skip
              unfold f_X12_sheet_b109
              have o31 : vp_in v7 (jlen Z b14) := vi_of rfl (by omega) (by omega)
              refine ⟨o31, ?_⟩
              intro I32 eI32
              try (have t33 : (if (0 : Int32) < (if v6 < (20 : Int32) then v6 else (20 : Int32)) then (if v6 < (20 : Int32) then v6 else (20 : Int32)) else (0 : Int32)).toInt = (max (0) (min (20) v6.toInt)) := (i_max (show (0 : Int32).toInt = 0 from rfl) (i_min (show (20 : Int32).toInt = 20 from rfl) rfl)))
              have w_I32 : WD Z I32 := by rw [eI32]; exact WD_putA w_I 12 3 kv0 eb14 kb14 rfl rfl (by decide) (by constructor <;> omega)
              have f_I32 : FR [(12, 3)] Z I Z I32 := by rw [eI32]; exact FR_upA w_I.2.1 kv0 eb14 kb14 rfl rfl List.mem_cons_self
              have q_I32 : FR Ws_X12_sheet Z I0 Z I32 := q_I.trans w0.1 w0.2.1 (f_I32.mono (by decide))
              have u34 : (I32 v0 0).toInt = (I v0 0).toInt := by rw [f_I32.2.2.1 v0 12 0 kv0 (by decide) (by decide)]
              intro b35 eb35
              obtain rfl : b14 = b35 := Option.some.inj (eb14.symm.trans eb35)
              have o36 : vp_in v7 24 := vi_of rfl (by omega) (by omega)
              refine ⟨o36, ?_⟩
              have t37 : 0 ≤ (I32 b14 v7.toNatClampNeg).toInt ∧ (I32 b14 v7.toNatClampNeg).toInt ≤ 20 := w_I32.arr 12 3 kv0 eb14 kb14 rfl rfl _
              intro x38 ex38
              have rx38 := i_rng x38
              first | (have tx38 : x38.toInt = (v5.toInt + (I32 b14 v7.toNatClampNeg).toInt) := by (rw [ex38]; exact (i_add rfl rfl (by omega) (by omega)))) | (have tx38 : x38.toInt = (v5 + (I32 b14 v7.toNatClampNeg)).toInt := by rw [ex38])
              intro x39 ex39
              have rx39 := i_rng x39
              first | (have tx39 : x39.toInt = (v6.toInt + v4.toInt) := by (rw [ex39]; exact (i_add rfl rfl (by omega) (by omega)))) | (have tx39 : x39.toInt = (v6 + v4).toInt := by rw [ex39])
              intro x40 ex40
              have rx40 := i_rng x40
              first | (have tx40 : x40.toInt = v7.toInt + (1) := by (rw [ex40]; exact (i_add rfl (show (1 : Int32).toInt = 1 from rfl) (by omega) (by omega)))) | skip
              exact ih x38 x39 x40 I32 L w_I32 q_I32   (by omega)  (by omega)
            · skip
              first | (have t41 : ¬ (v7.toInt < v2.toInt) := (not_congr (i_lt rfl rfl)).mp c29) | (have t41 : ¬ (v7.toInt < v2.toInt) := (not_congr (i_lt rfl rfl)).mp c29) | skip
              unfold f_X12_sheet_b94
              unfold f_X12_sheet_b109
              have o42 : vp_in v7 (jlen Z b14) := vi_of rfl (by omega) (by omega)
              refine ⟨o42, ?_⟩
              intro I43 eI43
              have t44 : (0 : Int32).toInt = 0 := rfl
              have w_I43 : WD Z I43 := by rw [eI43]; exact WD_putA w_I 12 3 kv0 eb14 kb14 rfl rfl (by decide) (by constructor <;> omega)
              have f_I43 : FR [(12, 3)] Z I Z I43 := by rw [eI43]; exact FR_upA w_I.2.1 kv0 eb14 kb14 rfl rfl List.mem_cons_self
              have q_I43 : FR Ws_X12_sheet Z I0 Z I43 := q_I.trans w0.1 w0.2.1 (f_I43.mono (by decide))
              have u45 : (I43 v0 0).toInt = (I v0 0).toInt := by rw [f_I43.2.2.1 v0 12 0 kv0 (by decide) (by decide)]
              intro b46 eb46
              obtain rfl : b14 = b46 := Option.some.inj (eb14.symm.trans eb46)
              have o47 : vp_in v7 24 := vi_of rfl (by omega) (by omega)
              refine ⟨o47, ?_⟩
              have t48 : 0 ≤ (I43 b14 v7.toNatClampNeg).toInt ∧ (I43 b14 v7.toNatClampNeg).toInt ≤ 20 := w_I43.arr 12 3 kv0 eb14 kb14 rfl rfl _
              intro x49 ex49
              have rx49 := i_rng x49
              first | (have tx49 : x49.toInt = (v5.toInt + (I43 b14 v7.toNatClampNeg).toInt) := by (rw [ex49]; exact (i_add rfl rfl (by omega) (by omega)))) | (have tx49 : x49.toInt = (v5 + (I43 b14 v7.toNatClampNeg)).toInt := by rw [ex49])
              intro x50 ex50
              have rx50 := i_rng x50
              first | (have tx50 : x50.toInt = (v6.toInt + v4.toInt) := by (rw [ex50]; exact (i_add rfl rfl (by omega) (by omega)))) | (have tx50 : x50.toInt = (v6 + v4).toInt := by rw [ex50])
              intro x51 ex51
              have rx51 := i_rng x51
              first | (have tx51 : x51.toInt = v7.toInt + (1) := by (rw [ex51]; exact (i_add rfl (show (1 : Int32).toInt = 1 from rfl) (by omega) (by omega)))) | skip
              exact ih x49 x50 x51 I43 L w_I43 q_I43   (by omega)  (by omega)
        · skip
          first | (have t52 : v1.toInt = (1) := (i_eq rfl (show (1 : Int32).toInt = 1 from rfl)).mp c12) | (have t52 : v1.toInt = (1 : Int32).toInt := (i_eq rfl rfl).mp c12) | skip
          unfold f_X12_sheet_b75
          intro b53 eb53
          obtain ⟨x54, ex54, kb53, lb53⟩ := sh_f w_I.1 kv0 (j := 3) (k := 14) (m := 24) rfl
          cases eb53.symm.trans ex54
          refine ⟨fun c55 => ?_, fun c55 => ?_⟩
          · skip
            first | (have t56 : v1.toInt = (3) := (i_eq rfl (show (3 : Int32).toInt = 3 from rfl)).mp c55) | (have t56 : v1.toInt = (3 : Int32).toInt := (i_eq rfl rfl).mp c55) | skip
            unfold f_X12_sheet_b94
            unfold f_X12_sheet_b109
            have o57 : vp_in v7 (jlen Z b53) := vi_of rfl (by omega) (by omega)
            refine ⟨o57, ?_⟩
            intro I58 eI58
            have t59 : (0 : Int32).toInt = 0 := rfl
            have w_I58 : WD Z I58 := by rw [eI58]; exact WD_putA w_I 12 3 kv0 eb53 kb53 rfl rfl (by decide) (by constructor <;> omega)
            have f_I58 : FR [(12, 3)] Z I Z I58 := by rw [eI58]; exact FR_upA w_I.2.1 kv0 eb53 kb53 rfl rfl List.mem_cons_self
            have q_I58 : FR Ws_X12_sheet Z I0 Z I58 := q_I.trans w0.1 w0.2.1 (f_I58.mono (by decide))
            have u60 : (I58 v0 0).toInt = (I v0 0).toInt := by rw [f_I58.2.2.1 v0 12 0 kv0 (by decide) (by decide)]
            intro b61 eb61
            obtain rfl : b53 = b61 := Option.some.inj (eb53.symm.trans eb61)
            have o62 : vp_in v7 24 := vi_of rfl (by omega) (by omega)
            refine ⟨o62, ?_⟩
            have t63 : 0 ≤ (I58 b53 v7.toNatClampNeg).toInt ∧ (I58 b53 v7.toNatClampNeg).toInt ≤ 20 := w_I58.arr 12 3 kv0 eb53 kb53 rfl rfl _
            intro x64 ex64
            have rx64 := i_rng x64
            first | (have tx64 : x64.toInt = (v5.toInt + (I58 b53 v7.toNatClampNeg).toInt) := by (rw [ex64]; exact (i_add rfl rfl (by omega) (by omega)))) | (have tx64 : x64.toInt = (v5 + (I58 b53 v7.toNatClampNeg)).toInt := by rw [ex64])
            intro x65 ex65
            have rx65 := i_rng x65
            first | (have tx65 : x65.toInt = (v6.toInt + v4.toInt) := by (rw [ex65]; exact (i_add rfl rfl (by omega) (by omega)))) | (have tx65 : x65.toInt = (v6 + v4).toInt := by rw [ex65])
            intro x66 ex66
            have rx66 := i_rng x66
            first | (have tx66 : x66.toInt = v7.toInt + (1) := by (rw [ex66]; exact (i_add rfl (show (1 : Int32).toInt = 1 from rfl) (by omega) (by omega)))) | skip
            exact ih x64 x65 x66 I58 L w_I58 q_I58   (by omega)  (by omega)
          · skip
            first | (have t67 : ¬ (v1.toInt = (3)) := (not_congr (i_eq rfl (show (3 : Int32).toInt = 3 from rfl))).mp c55) | (have t67 : ¬ (v1.toInt = (3 : Int32).toInt) := (not_congr (i_eq rfl rfl)).mp c55) | skip
            refine ⟨fun c68 => ?_, fun c68 => ?_⟩
            · skip
              first | (have t69 : v7.toInt < v2.toInt := (i_lt rfl rfl).mp c68) | (have t69 : v7.toInt < v2.toInt := (i_lt rfl rfl).mp c68) | skip
              unfold f_X12_sheet_b109
              have o70 : vp_in v7 (jlen Z b53) := vi_of rfl (by omega) (by omega)
              refine ⟨o70, ?_⟩
              intro I71 eI71
              try (have t72 : (if (0 : Int32) < (if (v6.toInt16.toInt32) < (20 : Int32) then (v6.toInt16.toInt32) else (20 : Int32)) then (if (v6.toInt16.toInt32) < (20 : Int32) then (v6.toInt16.toInt32) else (20 : Int32)) else (0 : Int32)).toInt = (max (0) (min (20) (v6.toInt16.toInt32).toInt)) := (i_max (show (0 : Int32).toInt = 0 from rfl) (i_min (show (20 : Int32).toInt = 20 from rfl) rfl)))
              have w_I71 : WD Z I71 := by rw [eI71]; exact WD_putA w_I 12 3 kv0 eb53 kb53 rfl rfl (by decide) (by constructor <;> omega)
              have f_I71 : FR [(12, 3)] Z I Z I71 := by rw [eI71]; exact FR_upA w_I.2.1 kv0 eb53 kb53 rfl rfl List.mem_cons_self
              have q_I71 : FR Ws_X12_sheet Z I0 Z I71 := q_I.trans w0.1 w0.2.1 (f_I71.mono (by decide))
              have u73 : (I71 v0 0).toInt = (I v0 0).toInt := by rw [f_I71.2.2.1 v0 12 0 kv0 (by decide) (by decide)]
              intro b74 eb74
              obtain rfl : b53 = b74 := Option.some.inj (eb53.symm.trans eb74)
              have o75 : vp_in v7 24 := vi_of rfl (by omega) (by omega)
              refine ⟨o75, ?_⟩
              have t76 : 0 ≤ (I71 b53 v7.toNatClampNeg).toInt ∧ (I71 b53 v7.toNatClampNeg).toInt ≤ 20 := w_I71.arr 12 3 kv0 eb53 kb53 rfl rfl _
              intro x77 ex77
              have rx77 := i_rng x77
              first | (have tx77 : x77.toInt = (v5.toInt + (I71 b53 v7.toNatClampNeg).toInt) := by (rw [ex77]; exact (i_add rfl rfl (by omega) (by omega)))) | (have tx77 : x77.toInt = (v5 + (I71 b53 v7.toNatClampNeg)).toInt := by rw [ex77])
              intro x78 ex78
              have rx78 := i_rng x78
              first | (have tx78 : x78.toInt = (v6.toInt + v4.toInt) := by (rw [ex78]; exact (i_add rfl rfl (by omega) (by omega)))) | (have tx78 : x78.toInt = (v6 + v4).toInt := by rw [ex78])
              intro x79 ex79
              have rx79 := i_rng x79
              first | (have tx79 : x79.toInt = v7.toInt + (1) := by (rw [ex79]; exact (i_add rfl (show (1 : Int32).toInt = 1 from rfl) (by omega) (by omega)))) | skip
              exact ih x77 x78 x79 I71 L w_I71 q_I71   (by omega)  (by omega)
            · skip
              first | (have t80 : ¬ (v7.toInt < v2.toInt) := (not_congr (i_lt rfl rfl)).mp c68) | (have t80 : ¬ (v7.toInt < v2.toInt) := (not_congr (i_lt rfl rfl)).mp c68) | skip
              unfold f_X12_sheet_b94
              unfold f_X12_sheet_b109
              have o81 : vp_in v7 (jlen Z b53) := vi_of rfl (by omega) (by omega)
              refine ⟨o81, ?_⟩
              intro I82 eI82
              have t83 : (0 : Int32).toInt = 0 := rfl
              have w_I82 : WD Z I82 := by rw [eI82]; exact WD_putA w_I 12 3 kv0 eb53 kb53 rfl rfl (by decide) (by constructor <;> omega)
              have f_I82 : FR [(12, 3)] Z I Z I82 := by rw [eI82]; exact FR_upA w_I.2.1 kv0 eb53 kb53 rfl rfl List.mem_cons_self
              have q_I82 : FR Ws_X12_sheet Z I0 Z I82 := q_I.trans w0.1 w0.2.1 (f_I82.mono (by decide))
              have u84 : (I82 v0 0).toInt = (I v0 0).toInt := by rw [f_I82.2.2.1 v0 12 0 kv0 (by decide) (by decide)]
              intro b85 eb85
              obtain rfl : b53 = b85 := Option.some.inj (eb53.symm.trans eb85)
              have o86 : vp_in v7 24 := vi_of rfl (by omega) (by omega)
              refine ⟨o86, ?_⟩
              have t87 : 0 ≤ (I82 b53 v7.toNatClampNeg).toInt ∧ (I82 b53 v7.toNatClampNeg).toInt ≤ 20 := w_I82.arr 12 3 kv0 eb53 kb53 rfl rfl _
              intro x88 ex88
              have rx88 := i_rng x88
              first | (have tx88 : x88.toInt = (v5.toInt + (I82 b53 v7.toNatClampNeg).toInt) := by (rw [ex88]; exact (i_add rfl rfl (by omega) (by omega)))) | (have tx88 : x88.toInt = (v5 + (I82 b53 v7.toNatClampNeg)).toInt := by rw [ex88])
              intro x89 ex89
              have rx89 := i_rng x89
              first | (have tx89 : x89.toInt = (v6.toInt + v4.toInt) := by (rw [ex89]; exact (i_add rfl rfl (by omega) (by omega)))) | (have tx89 : x89.toInt = (v6 + v4).toInt := by rw [ex89])
              intro x90 ex90
              have rx90 := i_rng x90
              first | (have tx90 : x90.toInt = v7.toInt + (1) := by (rw [ex90]; exact (i_add rfl (show (1 : Int32).toInt = 1 from rfl) (by omega) (by omega)))) | skip
              exact ih x88 x89 x90 I82 L w_I82 q_I82   (by omega)  (by omega)
      · skip
        first | (have t91 : v1.toInt = (0) := (i_eq rfl (show (0 : Int32).toInt = 0 from rfl)).mp c10) | (have t91 : v1.toInt = (0 : Int32).toInt := (i_eq rfl rfl).mp c10) | skip
        unfold f_X12_sheet_b75
        intro b92 eb92
        obtain ⟨x93, ex93, kb92, lb92⟩ := sh_f w_I.1 kv0 (j := 3) (k := 14) (m := 24) rfl
        cases eb92.symm.trans ex93
        refine ⟨fun c94 => ?_, fun c94 => ?_⟩
        · skip
          first | (have t95 : v1.toInt = (3) := (i_eq rfl (show (3 : Int32).toInt = 3 from rfl)).mp c94) | (have t95 : v1.toInt = (3 : Int32).toInt := (i_eq rfl rfl).mp c94) | skip
          unfold f_X12_sheet_b94
          unfold f_X12_sheet_b109
          have o96 : vp_in v7 (jlen Z b92) := vi_of rfl (by omega) (by omega)
          refine ⟨o96, ?_⟩
          intro I97 eI97
          have t98 : (0 : Int32).toInt = 0 := rfl
          have w_I97 : WD Z I97 := by rw [eI97]; exact WD_putA w_I 12 3 kv0 eb92 kb92 rfl rfl (by decide) (by constructor <;> omega)
          have f_I97 : FR [(12, 3)] Z I Z I97 := by rw [eI97]; exact FR_upA w_I.2.1 kv0 eb92 kb92 rfl rfl List.mem_cons_self
          have q_I97 : FR Ws_X12_sheet Z I0 Z I97 := q_I.trans w0.1 w0.2.1 (f_I97.mono (by decide))
          have u99 : (I97 v0 0).toInt = (I v0 0).toInt := by rw [f_I97.2.2.1 v0 12 0 kv0 (by decide) (by decide)]
          intro b100 eb100
          obtain rfl : b92 = b100 := Option.some.inj (eb92.symm.trans eb100)
          have o101 : vp_in v7 24 := vi_of rfl (by omega) (by omega)
          refine ⟨o101, ?_⟩
          have t102 : 0 ≤ (I97 b92 v7.toNatClampNeg).toInt ∧ (I97 b92 v7.toNatClampNeg).toInt ≤ 20 := w_I97.arr 12 3 kv0 eb92 kb92 rfl rfl _
          intro x103 ex103
          have rx103 := i_rng x103
          first | (have tx103 : x103.toInt = (v5.toInt + (I97 b92 v7.toNatClampNeg).toInt) := by (rw [ex103]; exact (i_add rfl rfl (by omega) (by omega)))) | (have tx103 : x103.toInt = (v5 + (I97 b92 v7.toNatClampNeg)).toInt := by rw [ex103])
          intro x104 ex104
          have rx104 := i_rng x104
          first | (have tx104 : x104.toInt = (v6.toInt + v4.toInt) := by (rw [ex104]; exact (i_add rfl rfl (by omega) (by omega)))) | (have tx104 : x104.toInt = (v6 + v4).toInt := by rw [ex104])
          intro x105 ex105
          have rx105 := i_rng x105
          first | (have tx105 : x105.toInt = v7.toInt + (1) := by (rw [ex105]; exact (i_add rfl (show (1 : Int32).toInt = 1 from rfl) (by omega) (by omega)))) | skip
          exact ih x103 x104 x105 I97 L w_I97 q_I97   (by omega)  (by omega)
        · skip
          first | (have t106 : ¬ (v1.toInt = (3)) := (not_congr (i_eq rfl (show (3 : Int32).toInt = 3 from rfl))).mp c94) | (have t106 : ¬ (v1.toInt = (3 : Int32).toInt) := (not_congr (i_eq rfl rfl)).mp c94) | skip
          refine ⟨fun c107 => ?_, fun c107 => ?_⟩
          · skip
            first | (have t108 : v7.toInt < v2.toInt := (i_lt rfl rfl).mp c107) | (have t108 : v7.toInt < v2.toInt := (i_lt rfl rfl).mp c107) | skip
            unfold f_X12_sheet_b109
            have o109 : vp_in v7 (jlen Z b92) := vi_of rfl (by omega) (by omega)
            refine ⟨o109, ?_⟩
            intro I110 eI110
            try (have t111 : (if (0 : Int32) < (if (v6.toInt8.toInt32) < (20 : Int32) then (v6.toInt8.toInt32) else (20 : Int32)) then (if (v6.toInt8.toInt32) < (20 : Int32) then (v6.toInt8.toInt32) else (20 : Int32)) else (0 : Int32)).toInt = (max (0) (min (20) (v6.toInt8.toInt32).toInt)) := (i_max (show (0 : Int32).toInt = 0 from rfl) (i_min (show (20 : Int32).toInt = 20 from rfl) rfl)))
            have w_I110 : WD Z I110 := by rw [eI110]; exact WD_putA w_I 12 3 kv0 eb92 kb92 rfl rfl (by decide) (by constructor <;> omega)
            have f_I110 : FR [(12, 3)] Z I Z I110 := by rw [eI110]; exact FR_upA w_I.2.1 kv0 eb92 kb92 rfl rfl List.mem_cons_self
            have q_I110 : FR Ws_X12_sheet Z I0 Z I110 := q_I.trans w0.1 w0.2.1 (f_I110.mono (by decide))
            have u112 : (I110 v0 0).toInt = (I v0 0).toInt := by rw [f_I110.2.2.1 v0 12 0 kv0 (by decide) (by decide)]
            intro b113 eb113
            obtain rfl : b92 = b113 := Option.some.inj (eb92.symm.trans eb113)
            have o114 : vp_in v7 24 := vi_of rfl (by omega) (by omega)
            refine ⟨o114, ?_⟩
            have t115 : 0 ≤ (I110 b92 v7.toNatClampNeg).toInt ∧ (I110 b92 v7.toNatClampNeg).toInt ≤ 20 := w_I110.arr 12 3 kv0 eb92 kb92 rfl rfl _
            intro x116 ex116
            have rx116 := i_rng x116
            first | (have tx116 : x116.toInt = (v5.toInt + (I110 b92 v7.toNatClampNeg).toInt) := by (rw [ex116]; exact (i_add rfl rfl (by omega) (by omega)))) | (have tx116 : x116.toInt = (v5 + (I110 b92 v7.toNatClampNeg)).toInt := by rw [ex116])
            intro x117 ex117
            have rx117 := i_rng x117
            first | (have tx117 : x117.toInt = (v6.toInt + v4.toInt) := by (rw [ex117]; exact (i_add rfl rfl (by omega) (by omega)))) | (have tx117 : x117.toInt = (v6 + v4).toInt := by rw [ex117])
            intro x118 ex118
            have rx118 := i_rng x118
            first | (have tx118 : x118.toInt = v7.toInt + (1) := by (rw [ex118]; exact (i_add rfl (show (1 : Int32).toInt = 1 from rfl) (by omega) (by omega)))) | skip
            exact ih x116 x117 x118 I110 L w_I110 q_I110   (by omega)  (by omega)
          · skip
            first | (have t119 : ¬ (v7.toInt < v2.toInt) := (not_congr (i_lt rfl rfl)).mp c107) | (have t119 : ¬ (v7.toInt < v2.toInt) := (not_congr (i_lt rfl rfl)).mp c107) | skip
            unfold f_X12_sheet_b94
            unfold f_X12_sheet_b109
            have o120 : vp_in v7 (jlen Z b92) := vi_of rfl (by omega) (by omega)
            refine ⟨o120, ?_⟩
            intro I121 eI121
            have t122 : (0 : Int32).toInt = 0 := rfl
            have w_I121 : WD Z I121 := by rw [eI121]; exact WD_putA w_I 12 3 kv0 eb92 kb92 rfl rfl (by decide) (by constructor <;> omega)
            have f_I121 : FR [(12, 3)] Z I Z I121 := by rw [eI121]; exact FR_upA w_I.2.1 kv0 eb92 kb92 rfl rfl List.mem_cons_self
            have q_I121 : FR Ws_X12_sheet Z I0 Z I121 := q_I.trans w0.1 w0.2.1 (f_I121.mono (by decide))
            have u123 : (I121 v0 0).toInt = (I v0 0).toInt := by rw [f_I121.2.2.1 v0 12 0 kv0 (by decide) (by decide)]
            intro b124 eb124
            obtain rfl : b92 = b124 := Option.some.inj (eb92.symm.trans eb124)
            have o125 : vp_in v7 24 := vi_of rfl (by omega) (by omega)
            refine ⟨o125, ?_⟩
            have t126 : 0 ≤ (I121 b92 v7.toNatClampNeg).toInt ∧ (I121 b92 v7.toNatClampNeg).toInt ≤ 20 := w_I121.arr 12 3 kv0 eb92 kb92 rfl rfl _
            intro x127 ex127
            have rx127 := i_rng x127
            first | (have tx127 : x127.toInt = (v5.toInt + (I121 b92 v7.toNatClampNeg).toInt) := by (rw [ex127]; exact (i_add rfl rfl (by omega) (by omega)))) | (have tx127 : x127.toInt = (v5 + (I121 b92 v7.toNatClampNeg)).toInt := by rw [ex127])
            intro x128 ex128
            have rx128 := i_rng x128
            first | (have tx128 : x128.toInt = (v6.toInt + v4.toInt) := by (rw [ex128]; exact (i_add rfl rfl (by omega) (by omega)))) | (have tx128 : x128.toInt = (v6 + v4).toInt := by rw [ex128])
            intro x129 ex129
            have rx129 := i_rng x129
            first | (have tx129 : x129.toInt = v7.toInt + (1) := by (rw [ex129]; exact (i_add rfl (show (1 : Int32).toInt = 1 from rfl) (by omega) (by omega)))) | skip
            exact ih x127 x128 x129 I121 L w_I121 q_I121   (by omega)  (by omega)
set_option maxHeartbeats 4000000 in
set_option maxRecDepth 100000 in
theorem s_X12_sheet {Z : jZ} {I : jI} {L : jL} (w_I : WD Z I) (v0 : Nat) (v1 : Int32) (v2 : Int32) (v3 : Int32) (v4 : Int32) (kv0 : jk Z v0 12) {Q : Int32 → jI → jL → Prop} (hQ : ∀ (r : Int32) (I' : jI) (L' : jL), WD Z I' → FR Ws_X12_sheet Z I Z I' → Q r I' L') : f_X12_sheet v0 v1 v2 v3 v4 Z I L Q := by
  unfold f_X12_sheet
  have q_I : FR Ws_X12_sheet Z I Z I := FR.rf
  have rv1 := i_rng v1
  have rv2 := i_rng v2
  have rv3 := i_rng v3
  have rv4 := i_rng v4
  intro I130 eI130
  have t131 : (0 : Int32).toInt = 0 := rfl
  have w_I130 : WD Z I130 := by rw [eI130]; exact WD_putF w_I 12 22 kv0 (by decide) (by decide) trivial
  have f_I130 : FR [(12, 22)] Z I Z I130 := by rw [eI130]; exact FR_putF kv0 (by decide) List.mem_cons_self
  have q_I130 : FR Ws_X12_sheet Z I Z I130 := q_I.trans w_I.1 w_I.2.1 (f_I130.mono (by decide))
  first | (have u132 : (I130 v0 22).toInt = (0) := by (rw [eI130, show jpI I v0 22 (0 : Int32) v0 22 = (0 : Int32) from jpI_at] <;> exact (show (0 : Int32).toInt = 0 from rfl))) | skip
  have t133 : (0 : Int32).toInt = 0 := rfl
  have t134 : (3 : Int32).toInt = 3 := rfl
  refine s_X12_in w_I130 v1 (0 : Int32) (3 : Int32)    (fun r135 p136 => ?_)
  have rr135 := i_rng r135
  refine ⟨fun c137 => ?_, fun c137 => ?_⟩
  · skip
    first | (have t138 : r135.toInt = (0) := (i_eq rfl (show (0 : Int32).toInt = 0 from rfl)).mp c137) | (have t138 : r135.toInt = (0 : Int32).toInt := (i_eq rfl rfl).mp c137) | skip
    have t139 : (-1 : Int32).toInt = -1 := rfl
    exact hQ (-1 : Int32) I130 L w_I130 q_I130 
  · skip
    first | (have t140 : ¬ (r135.toInt = (0)) := (not_congr (i_eq rfl (show (0 : Int32).toInt = 0 from rfl))).mp c137) | (have t140 : ¬ (r135.toInt = (0 : Int32).toInt) := (not_congr (i_eq rfl rfl)).mp c137) | skip
    refine ⟨fun c141 => ?_, fun c141 => ?_⟩
    · skip
      first | (have t142 : v2.toInt ≤ (24) := (i_le rfl (show (24 : Int32).toInt = 24 from rfl)).mp c141) | (have t142 : v2.toInt ≤ (24 : Int32).toInt := (i_le rfl rfl).mp c141) | skip
      refine ⟨fun c143 => ?_, fun c143 => ?_⟩
      · skip
        first | (have t144 : (3) ≤ v1.toInt := (i_le (show (3 : Int32).toInt = 3 from rfl) rfl).mp c143) | (have t144 : (3 : Int32).toInt ≤ v1.toInt := (i_le rfl rfl).mp c143) | skip
        unfold f_X12_sheet_b34
        have t145 : (0 : Int32).toInt = 0 := rfl
        have t146 : (0 : Int32).toInt = 0 := rfl
        exact ⟨(24 - (0 : Int32).toInt).toNat + 1, l_X12_sheet_L43 w_I v0 v1 v2 v3 v4 kv0   hQ   _ (0 : Int32) v3 (0 : Int32) I130 L w_I130 q_I130   (by omega)  (by omega)⟩
      · skip
        first | (have t147 : ¬ ((3) ≤ v1.toInt) := (not_congr (i_le (show (3 : Int32).toInt = 3 from rfl) rfl)).mp c143) | (have t147 : ¬ ((3 : Int32).toInt ≤ v1.toInt) := (not_congr (i_le rfl rfl)).mp c143) | skip
        refine ⟨fun c148 => ?_, fun c148 => ?_⟩
        · skip
          first | (have t149 : (0) ≤ v2.toInt := (i_le (show (0 : Int32).toInt = 0 from rfl) rfl).mp c148) | (have t149 : (0 : Int32).toInt ≤ v2.toInt := (i_le rfl rfl).mp c148) | skip
          unfold f_X12_sheet_b34
          have t150 : (0 : Int32).toInt = 0 := rfl
          have t151 : (0 : Int32).toInt = 0 := rfl
          exact ⟨(24 - (0 : Int32).toInt).toNat + 1, l_X12_sheet_L43 w_I v0 v1 v2 v3 v4 kv0   hQ   _ (0 : Int32) v3 (0 : Int32) I130 L w_I130 q_I130   (by omega)  (by omega)⟩
        · skip
          first | (have t152 : ¬ ((0) ≤ v2.toInt) := (not_congr (i_le (show (0 : Int32).toInt = 0 from rfl) rfl)).mp c148) | (have t152 : ¬ ((0 : Int32).toInt ≤ v2.toInt) := (not_congr (i_le rfl rfl)).mp c148) | skip
          have t153 : (-2 : Int32).toInt = -2 := rfl
          exact hQ (-2 : Int32) I130 L w_I130 q_I130 
    · skip
      first | (have t154 : ¬ (v2.toInt ≤ (24)) := (not_congr (i_le rfl (show (24 : Int32).toInt = 24 from rfl))).mp c141) | (have t154 : ¬ (v2.toInt ≤ (24 : Int32).toInt) := (not_congr (i_le rfl rfl)).mp c141) | skip
      have t155 : (-1 : Int32).toInt = -1 := rfl
      exact hQ (-1 : Int32) I130 L w_I130 q_I130 
def Ws_X12_setFeud : List (Nat × Nat) := [(12, 6)]
set_option maxHeartbeats 4000000 in
set_option maxRecDepth 100000 in
theorem s_X12_setFeud {Z : jZ} {I : jI} {L : jL} (w_I : WD Z I) (v0 : Nat) (v1 : Int32) (v2 : Int32) (v3 : Int32) (kv0 : jk Z v0 12) (p0 : 0 ≤ v1.toInt ∧ v1.toInt ≤ 7 ∧ 0 ≤ v2.toInt ∧ v2.toInt ≤ 7) {Q : jI → jL → Prop} (hQ : ∀  (I' : jI) (L' : jL), WD Z I' → FR Ws_X12_setFeud Z I Z I' → Q I' L') : f_X12_setFeud v0 v1 v2 v3 Z I L Q := by
  unfold f_X12_setFeud
  have q_I : FR Ws_X12_setFeud Z I Z I := FR.rf
  have rv1 := i_rng v1
  have rv2 := i_rng v2
  have rv3 := i_rng v3
  intro b1 eb1
  obtain ⟨x2, ex2, kb1, lb1⟩ := sh_f w_I.1 kv0 (j := 6) (k := 16) (m := 64) rfl
  cases eb1.symm.trans ex2
  have o3 : vp_in (((8 : Int32) * v1) + v2) 64 := vi_of (i_add (i_mul (show (8 : Int32).toInt = 8 from rfl) rfl (by omega) (by omega)) rfl (by omega) (by omega)) (by omega) (by omega)
  refine ⟨o3, ?_⟩
  intro I4 eI4
  have w_I4 : WD Z I4 := by rw [eI4]; exact WD_putA w_I 12 6 kv0 eb1 kb1 rfl rfl (by decide) trivial
  have f_I4 : FR [(12, 6)] Z I Z I4 := by rw [eI4]; exact FR_upA w_I.2.1 kv0 eb1 kb1 rfl rfl List.mem_cons_self
  have q_I4 : FR Ws_X12_setFeud Z I Z I4 := q_I.trans w_I.1 w_I.2.1 (f_I4.mono (by decide))
  intro b5 eb5
  obtain rfl : b1 = b5 := Option.some.inj (eb1.symm.trans eb5)
  have o6 : vp_in (((8 : Int32) * v2) + v1) 64 := vi_of (i_add (i_mul (show (8 : Int32).toInt = 8 from rfl) rfl (by omega) (by omega)) rfl (by omega) (by omega)) (by omega) (by omega)
  refine ⟨o6, ?_⟩
  intro I7 eI7
  have w_I7 : WD Z I7 := by rw [eI7]; exact WD_putA w_I4 12 6 kv0 eb1 kb1 rfl rfl (by decide) trivial
  have f_I7 : FR [(12, 6)] Z I4 Z I7 := by rw [eI7]; exact FR_upA w_I4.2.1 kv0 eb1 kb1 rfl rfl List.mem_cons_self
  have q_I7 : FR Ws_X12_setFeud Z I Z I7 := q_I4.trans w_I.1 w_I.2.1 (f_I7.mono (by decide))
  exact hQ  I7 L w_I7 q_I7 
def Ws_X12_feud : List (Nat × Nat) := [(12, 6), (12, 22)]
set_option maxHeartbeats 4000000 in
set_option maxRecDepth 100000 in
theorem s_X12_feud {Z : jZ} {I : jI} {L : jL} (w_I : WD Z I) (v0 : Nat) (v1 : Int32) (v2 : Int32) (v3 : Int32) (kv0 : jk Z v0 12) {Q : Int32 → jI → jL → Prop} (hQ : ∀ (r : Int32) (I' : jI) (L' : jL), WD Z I' → FR Ws_X12_feud Z I Z I' → ((r.toInt = 1 ∧ 0 ≤ v1.toInt ∧ v1.toInt ≤ 7 ∧ 0 ≤ v2.toInt ∧ v2.toInt ≤ 7 ∧ ¬ v1.toInt = v2.toInt) ∨ (r.toInt = 0 ∧ ¬ (0 ≤ v1.toInt ∧ v1.toInt ≤ 7 ∧ 0 ≤ v2.toInt ∧ v2.toInt ≤ 7 ∧ ¬ v1.toInt = v2.toInt))) → Q r I' L') : f_X12_feud v0 v1 v2 v3 Z I L Q := by
  unfold f_X12_feud
  have q_I : FR Ws_X12_feud Z I Z I := FR.rf
  have rv1 := i_rng v1
  have rv2 := i_rng v2
  have rv3 := i_rng v3
  intro I1 eI1
  have t2 : (0 : Int32).toInt = 0 := rfl
  have w_I1 : WD Z I1 := by rw [eI1]; exact WD_putF w_I 12 22 kv0 (by decide) (by decide) trivial
  have f_I1 : FR [(12, 22)] Z I Z I1 := by rw [eI1]; exact FR_putF kv0 (by decide) List.mem_cons_self
  have q_I1 : FR Ws_X12_feud Z I Z I1 := q_I.trans w_I.1 w_I.2.1 (f_I1.mono (by decide))
  first | (have u3 : (I1 v0 22).toInt = (0) := by (rw [eI1, show jpI I v0 22 (0 : Int32) v0 22 = (0 : Int32) from jpI_at] <;> exact (show (0 : Int32).toInt = 0 from rfl))) | skip
  refine s_X12_isFamily w_I1 v1    (fun r4 p5 => ?_)
  have rr4 := i_rng r4
  refine ⟨fun c6 => ?_, fun c6 => ?_⟩
  · skip
    first | (have t7 : r4.toInt = (0) := (i_eq rfl (show (0 : Int32).toInt = 0 from rfl)).mp c6) | (have t7 : r4.toInt = (0 : Int32).toInt := (i_eq rfl rfl).mp c6) | skip
    have t8 : (0 : Int32).toInt = 0 := rfl
    exact hQ (0 : Int32) I1 L w_I1 q_I1 (by omega)
  · skip
    first | (have t9 : ¬ (r4.toInt = (0)) := (not_congr (i_eq rfl (show (0 : Int32).toInt = 0 from rfl))).mp c6) | (have t9 : ¬ (r4.toInt = (0 : Int32).toInt) := (not_congr (i_eq rfl rfl)).mp c6) | skip
    refine s_X12_isFamily w_I1 v2    (fun r10 p11 => ?_)
    have rr10 := i_rng r10
    refine ⟨fun c12 => ?_, fun c12 => ?_⟩
    · skip
      first | (have t13 : r10.toInt = (0) := (i_eq rfl (show (0 : Int32).toInt = 0 from rfl)).mp c12) | (have t13 : r10.toInt = (0 : Int32).toInt := (i_eq rfl rfl).mp c12) | skip
      have t14 : (0 : Int32).toInt = 0 := rfl
      exact hQ (0 : Int32) I1 L w_I1 q_I1 (by omega)
    · skip
      first | (have t15 : ¬ (r10.toInt = (0)) := (not_congr (i_eq rfl (show (0 : Int32).toInt = 0 from rfl))).mp c12) | (have t15 : ¬ (r10.toInt = (0 : Int32).toInt) := (not_congr (i_eq rfl rfl)).mp c12) | skip
      refine ⟨fun c16 => ?_, fun c16 => ?_⟩
      · skip
        first | (have t17 : ¬ (v1.toInt = v2.toInt) := (not_congr (i_eq rfl rfl)).mp c16) | (have t17 : ¬ (v1.toInt = v2.toInt) := (not_congr (i_eq rfl rfl)).mp c16) | skip
        refine s_X12_setFeud w_I1 v0 v1 v2 v3 kv0  (by omega) (fun  I18 L19 w_I18 f_I18  => ?_)
        have q_I18 : FR Ws_X12_feud Z I Z I18 := q_I1.trans w_I.1 w_I.2.1 (f_I18.mono (by decide))
        have u20 : (I18 v0 22).toInt = (I1 v0 22).toInt := by rw [f_I18.2.2.1 v0 12 22 kv0 (by decide) (by decide)]
        have t21 : (1 : Int32).toInt = 1 := rfl
        exact hQ (1 : Int32) I18 L19 w_I18 q_I18 (by omega)
      · skip
        first | (have t22 : v1.toInt = v2.toInt := (i_eq rfl rfl).mp c16) | (have t22 : v1.toInt = v2.toInt := (i_eq rfl rfl).mp c16) | skip
        have t23 : (0 : Int32).toInt = 0 := rfl
        exact hQ (0 : Int32) I1 L w_I1 q_I1 (by omega)
def Ws_X12_wears : List (Nat × Nat) := [(12, 2), (12, 22)]
set_option maxHeartbeats 4000000 in
set_option maxRecDepth 100000 in
theorem l_X12_wears_L21 {Z : jZ} {I0 : jI} {Q : Int32 → jI → jL → Prop} (w0 : WD Z I0) (v0 : Nat) (v1 : Int32) (kv0 : jk Z v0 12) (hQ : ∀ (r : Int32) (I' : jI) (L' : jL), WD Z I' → FR Ws_X12_wears Z I0 Z I' → Q r I' L') : ∀ (n : Nat) (v2 : Int32) (v3 : Int32) (I : jI) (L : jL), WD Z I → FR Ws_X12_wears Z I0 Z I →   (0 ≤ v3.toInt ∧ v3.toInt ≤ 24 ∧ 0 ≤ v1.toInt ∧ v1.toInt ≤ 9) → 24 - v3.toInt < (n : Int) → f_X12_wears_L21  Z Q n v0 v1 v2 v3 I L := by
  intro n
  induction n with
  | zero =>
    intro v2 v3 I L w_I q_I   li  me
    exfalso
    omega
  | succ n ih =>
    intro v2 v3 I L w_I q_I   li  me
    unfold f_X12_wears_L21
    have rv2 := i_rng v2
    have rv3 := i_rng v3
    have rv1 := i_rng v1
    have t2 : 0 ≤ (I v0 0).toInt ∧ (I v0 0).toInt ≤ 24 := w_I.fld 12 0 kv0 (by decide)
    refine ⟨fun c3 => ?_, fun c3 => ?_⟩
    · skip
      first | (have t4 : (I v0 0).toInt ≤ v3.toInt := (i_le rfl rfl).mp c3) | (have t4 : (I v0 0).toInt ≤ v3.toInt := (i_le rfl rfl).mp c3) | skip
      exact hQ v2 I L w_I q_I 
    · skip
      first | (have t5 : ¬ ((I v0 0).toInt ≤ v3.toInt) := (not_congr (i_le rfl rfl)).mp c3) | (have t5 : ¬ ((I v0 0).toInt ≤ v3.toInt) := (not_congr (i_le rfl rfl)).mp c3) | skip
      intro b6 eb6
      obtain ⟨x7, ex7, kb6, lb6⟩ := sh_f w_I.1 kv0 (j := 2) (k := 14) (m := 24) rfl
      cases eb6.symm.trans ex7
      intro b8 eb8
      obtain rfl : b6 = b8 := Option.some.inj (eb6.symm.trans eb8)
      have o9 : vp_in v3 24 := vi_of rfl (by omega) (by omega)
      refine ⟨o9, ?_⟩
      have t10 : 0 ≤ (I b6 v3.toNatClampNeg).toInt ∧ (I b6 v3.toNatClampNeg).toInt ≤ 9 := w_I.arr 12 2 kv0 eb6 kb6 rfl rfl _
      have o11 : vp_in v3 24 := vi_of rfl (by omega) (by omega)
      refine ⟨o11, ?_⟩
      intro I12 eI12
      try (have t13 : (if (0 : Int32) < ((I b6 v3.toNatClampNeg) - v1) then ((I b6 v3.toNatClampNeg) - v1) else (0 : Int32)).toInt = (max (0) ((I b6 v3.toNatClampNeg).toInt - v1.toInt)) := (i_max (show (0 : Int32).toInt = 0 from rfl) (i_sub rfl rfl (by omega) (by omega))))
      have w_I12 : WD Z I12 := by rw [eI12]; exact WD_putA w_I 12 2 kv0 eb6 kb6 rfl rfl (by decide) (by constructor <;> omega)
      have f_I12 : FR [(12, 2)] Z I Z I12 := by rw [eI12]; exact FR_upA w_I.2.1 kv0 eb6 kb6 rfl rfl List.mem_cons_self
      have q_I12 : FR Ws_X12_wears Z I0 Z I12 := q_I.trans w0.1 w0.2.1 (f_I12.mono (by decide))
      have u14 : (I12 v0 0).toInt = (I v0 0).toInt := by rw [f_I12.2.2.1 v0 12 0 kv0 (by decide) (by decide)]
      intro b15 eb15
      obtain rfl : b6 = b15 := Option.some.inj (eb6.symm.trans eb15)
      have o16 : vp_in v3 24 := vi_of rfl (by omega) (by omega)
      refine ⟨o16, ?_⟩
      have t17 : 0 ≤ (I12 b6 v3.toNatClampNeg).toInt ∧ (I12 b6 v3.toNatClampNeg).toInt ≤ 9 := w_I12.arr 12 2 kv0 eb6 kb6 rfl rfl _
      intro x18 ex18
      have rx18 := i_rng x18
      first | (have tx18 : x18.toInt = (v2.toInt + (I12 b6 v3.toNatClampNeg).toInt) := by (rw [ex18]; exact (i_add rfl rfl (by omega) (by omega)))) | (have tx18 : x18.toInt = (v2 + (I12 b6 v3.toNatClampNeg)).toInt := by rw [ex18])
      intro x19 ex19
      have rx19 := i_rng x19
      first | (have tx19 : x19.toInt = v3.toInt + (1) := by (rw [ex19]; exact (i_add rfl (show (1 : Int32).toInt = 1 from rfl) (by omega) (by omega)))) | skip
      exact ih x18 x19 I12 L w_I12 q_I12   (by omega)  (by omega)
set_option maxHeartbeats 4000000 in
set_option maxRecDepth 100000 in
theorem s_X12_wears {Z : jZ} {I : jI} {L : jL} (w_I : WD Z I) (v0 : Nat) (v1 : Int32) (kv0 : jk Z v0 12) {Q : Int32 → jI → jL → Prop} (hQ : ∀ (r : Int32) (I' : jI) (L' : jL), WD Z I' → FR Ws_X12_wears Z I Z I' → Q r I' L') : f_X12_wears v0 v1 Z I L Q := by
  unfold f_X12_wears
  have q_I : FR Ws_X12_wears Z I Z I := FR.rf
  have rv1 := i_rng v1
  intro I20 eI20
  have t21 : (0 : Int32).toInt = 0 := rfl
  have w_I20 : WD Z I20 := by rw [eI20]; exact WD_putF w_I 12 22 kv0 (by decide) (by decide) trivial
  have f_I20 : FR [(12, 22)] Z I Z I20 := by rw [eI20]; exact FR_putF kv0 (by decide) List.mem_cons_self
  have q_I20 : FR Ws_X12_wears Z I Z I20 := q_I.trans w_I.1 w_I.2.1 (f_I20.mono (by decide))
  first | (have u22 : (I20 v0 22).toInt = (0) := by (rw [eI20, show jpI I v0 22 (0 : Int32) v0 22 = (0 : Int32) from jpI_at] <;> exact (show (0 : Int32).toInt = 0 from rfl))) | skip
  have t23 : (0 : Int32).toInt = 0 := rfl
  have t24 : (9 : Int32).toInt = 9 := rfl
  refine s_X12_in w_I20 v1 (0 : Int32) (9 : Int32)    (fun r25 p26 => ?_)
  have rr25 := i_rng r25
  refine ⟨fun c27 => ?_, fun c27 => ?_⟩
  · skip
    first | (have t28 : ¬ (r25.toInt = (0)) := (not_congr (i_eq rfl (show (0 : Int32).toInt = 0 from rfl))).mp c27) | (have t28 : ¬ (r25.toInt = (0 : Int32).toInt) := (not_congr (i_eq rfl rfl)).mp c27) | skip
    have t29 : (0 : Int32).toInt = 0 := rfl
    have t30 : (0 : Int32).toInt = 0 := rfl
    exact ⟨(24 - (0 : Int32).toInt).toNat + 1, l_X12_wears_L21 w_I v0 v1 kv0   hQ   _ (0 : Int32) (0 : Int32) I20 L w_I20 q_I20   (by omega)  (by omega)⟩
  · skip
    first | (have t31 : r25.toInt = (0) := (i_eq rfl (show (0 : Int32).toInt = 0 from rfl)).mp c27) | (have t31 : r25.toInt = (0 : Int32).toInt := (i_eq rfl rfl).mp c27) | skip
    have t32 : (-1 : Int32).toInt = -1 := rfl
    exact hQ (-1 : Int32) I20 L w_I20 q_I20 
def Ws_X12_pilgrim : List (Nat × Nat) := [(12, 8), (12, 9), (12, 10), (12, 11), (12, 12), (12, 13), (12, 14), (12, 15), (12, 16), (12, 22)]
set_option maxHeartbeats 4000000 in
set_option maxRecDepth 100000 in
theorem s_X12_pilgrim {Z : jZ} {I : jI} {L : jL} (w_I : WD Z I) (v0 : Nat) (v1 : Int32) (v2 : Int32) (v3 : Int32) (v4 : Int32) (kv0 : jk Z v0 12) {Q : Int32 → jI → jL → Prop} (hQ : ∀ (r : Int32) (I' : jI) (L' : jL), WD Z I' → FR Ws_X12_pilgrim Z I Z I' → Q r I' L') : f_X12_pilgrim v0 v1 v2 v3 v4 Z I L Q := by
  unfold f_X12_pilgrim
  have q_I : FR Ws_X12_pilgrim Z I Z I := FR.rf
  have rv1 := i_rng v1
  have rv2 := i_rng v2
  have rv3 := i_rng v3
  have rv4 := i_rng v4
  intro I1 eI1
  have t2 : (0 : Int32).toInt = 0 := rfl
  have w_I1 : WD Z I1 := by rw [eI1]; exact WD_putF w_I 12 22 kv0 (by decide) (by decide) trivial
  have f_I1 : FR [(12, 22)] Z I Z I1 := by rw [eI1]; exact FR_putF kv0 (by decide) List.mem_cons_self
  have q_I1 : FR Ws_X12_pilgrim Z I Z I1 := q_I.trans w_I.1 w_I.2.1 (f_I1.mono (by decide))
  first | (have u3 : (I1 v0 22).toInt = (0) := by (rw [eI1, show jpI I v0 22 (0 : Int32) v0 22 = (0 : Int32) from jpI_at] <;> exact (show (0 : Int32).toInt = 0 from rfl))) | skip
  have t4 : (1 : Int32).toInt = 1 := rfl
  have t5 : (120 : Int32).toInt = 120 := rfl
  refine s_X12_in w_I1 v1 (1 : Int32) (120 : Int32)    (fun r6 p7 => ?_)
  have rr6 := i_rng r6
  refine ⟨fun c8 => ?_, fun c8 => ?_⟩
  · skip
    first | (have t9 : r6.toInt = (0) := (i_eq rfl (show (0 : Int32).toInt = 0 from rfl)).mp c8) | (have t9 : r6.toInt = (0 : Int32).toInt := (i_eq rfl rfl).mp c8) | skip
    have t10 : (-1 : Int32).toInt = -1 := rfl
    exact hQ (-1 : Int32) I1 L w_I1 q_I1 
  · skip
    first | (have t11 : ¬ (r6.toInt = (0)) := (not_congr (i_eq rfl (show (0 : Int32).toInt = 0 from rfl))).mp c8) | (have t11 : ¬ (r6.toInt = (0 : Int32).toInt) := (not_congr (i_eq rfl rfl)).mp c8) | skip
    have t12 : (0 : Int32).toInt = 0 := rfl
    have t13 : (999 : Int32).toInt = 999 := rfl
    refine s_X12_in w_I1 v2 (0 : Int32) (999 : Int32)    (fun r14 p15 => ?_)
    have rr14 := i_rng r14
    refine ⟨fun c16 => ?_, fun c16 => ?_⟩
    · skip
      first | (have t17 : r14.toInt = (0) := (i_eq rfl (show (0 : Int32).toInt = 0 from rfl)).mp c16) | (have t17 : r14.toInt = (0 : Int32).toInt := (i_eq rfl rfl).mp c16) | skip
      have t18 : (-1 : Int32).toInt = -1 := rfl
      exact hQ (-1 : Int32) I1 L w_I1 q_I1 
    · skip
      first | (have t19 : ¬ (r14.toInt = (0)) := (not_congr (i_eq rfl (show (0 : Int32).toInt = 0 from rfl))).mp c16) | (have t19 : ¬ (r14.toInt = (0 : Int32).toInt) := (not_congr (i_eq rfl rfl)).mp c16) | skip
      have t20 : (1 : Int32).toInt = 1 := rfl
      have t21 : (3 : Int32).toInt = 3 := rfl
      refine s_X12_in w_I1 v3 (1 : Int32) (3 : Int32)    (fun r22 p23 => ?_)
      have rr22 := i_rng r22
      refine ⟨fun c24 => ?_, fun c24 => ?_⟩
      · skip
        first | (have t25 : r22.toInt = (0) := (i_eq rfl (show (0 : Int32).toInt = 0 from rfl)).mp c24) | (have t25 : r22.toInt = (0 : Int32).toInt := (i_eq rfl rfl).mp c24) | skip
        have t26 : (-1 : Int32).toInt = -1 := rfl
        exact hQ (-1 : Int32) I1 L w_I1 q_I1 
      · skip
        first | (have t27 : ¬ (r22.toInt = (0)) := (not_congr (i_eq rfl (show (0 : Int32).toInt = 0 from rfl))).mp c24) | (have t27 : ¬ (r22.toInt = (0 : Int32).toInt) := (not_congr (i_eq rfl rfl)).mp c24) | skip
        have t28 : (0 : Int32).toInt = 0 := rfl
        have t29 : (50 : Int32).toInt = 50 := rfl
        refine s_X12_in w_I1 v4 (0 : Int32) (50 : Int32)    (fun r30 p31 => ?_)
        have rr30 := i_rng r30
        refine ⟨fun c32 => ?_, fun c32 => ?_⟩
        · skip
          first | (have t33 : r30.toInt = (0) := (i_eq rfl (show (0 : Int32).toInt = 0 from rfl)).mp c32) | (have t33 : r30.toInt = (0 : Int32).toInt := (i_eq rfl rfl).mp c32) | skip
          have t34 : (-1 : Int32).toInt = -1 := rfl
          exact hQ (-1 : Int32) I1 L w_I1 q_I1 
        · skip
          first | (have t35 : ¬ (r30.toInt = (0)) := (not_congr (i_eq rfl (show (0 : Int32).toInt = 0 from rfl))).mp c32) | (have t35 : ¬ (r30.toInt = (0 : Int32).toInt) := (not_congr (i_eq rfl rfl)).mp c32) | skip
          have t37 : 0 ≤ (I1 v0 8).toInt ∧ (I1 v0 8).toInt ≤ 6 := w_I1.fld 12 8 kv0 (by decide)
          refine ⟨fun c38 => ?_, fun c38 => ?_⟩
          · skip
            first | (have t39 : ¬ ((I1 v0 8).toInt = (6)) := (not_congr (i_eq rfl (show (6 : Int32).toInt = 6 from rfl))).mp c38) | (have t39 : ¬ ((I1 v0 8).toInt = (6 : Int32).toInt) := (not_congr (i_eq rfl rfl)).mp c38) | skip
            intro b40 eb40
            obtain ⟨x41, ex41, kb40, lb40⟩ := sh_f w_I1.1 kv0 (j := 9) (k := 14) (m := 6) rfl
            cases eb40.symm.trans ex41
            have t43 : 0 ≤ (I1 v0 8).toInt ∧ (I1 v0 8).toInt ≤ 6 := w_I1.fld 12 8 kv0 (by decide)
            have o44 : vp_in (I1 v0 8) 6 := vi_of rfl (by omega) (by omega)
            refine ⟨o44, ?_⟩
            intro I45 eI45
            have w_I45 : WD Z I45 := by rw [eI45]; exact WD_putA w_I1 12 9 kv0 eb40 kb40 rfl rfl (by decide) (by constructor <;> omega)
            have f_I45 : FR [(12, 9)] Z I1 Z I45 := by rw [eI45]; exact FR_upA w_I1.2.1 kv0 eb40 kb40 rfl rfl List.mem_cons_self
            have q_I45 : FR Ws_X12_pilgrim Z I Z I45 := q_I1.trans w_I.1 w_I.2.1 (f_I45.mono (by decide))
            have u46 : (I45 v0 22).toInt = (I1 v0 22).toInt := by rw [f_I45.2.2.1 v0 12 22 kv0 (by decide) (by decide)]
            have u47 : (I45 v0 8).toInt = (I1 v0 8).toInt := by rw [f_I45.2.2.1 v0 12 8 kv0 (by decide) (by decide)]
            intro b48 eb48
            obtain ⟨x49, ex49, kb48, lb48⟩ := sh_f w_I45.1 kv0 (j := 10) (k := 14) (m := 6) rfl
            cases eb48.symm.trans ex49
            have t51 : 0 ≤ (I45 v0 8).toInt ∧ (I45 v0 8).toInt ≤ 6 := w_I45.fld 12 8 kv0 (by decide)
            have o52 : vp_in (I45 v0 8) 6 := vi_of rfl (by omega) (by omega)
            refine ⟨o52, ?_⟩
            intro I53 eI53
            have w_I53 : WD Z I53 := by rw [eI53]; exact WD_putA w_I45 12 10 kv0 eb48 kb48 rfl rfl (by decide) (by constructor <;> omega)
            have f_I53 : FR [(12, 10)] Z I45 Z I53 := by rw [eI53]; exact FR_upA w_I45.2.1 kv0 eb48 kb48 rfl rfl List.mem_cons_self
            have q_I53 : FR Ws_X12_pilgrim Z I Z I53 := q_I45.trans w_I.1 w_I.2.1 (f_I53.mono (by decide))
            have u54 : (I53 v0 22).toInt = (I45 v0 22).toInt := by rw [f_I53.2.2.1 v0 12 22 kv0 (by decide) (by decide)]
            have u55 : (I53 v0 8).toInt = (I45 v0 8).toInt := by rw [f_I53.2.2.1 v0 12 8 kv0 (by decide) (by decide)]
            intro b56 eb56
            obtain ⟨x57, ex57, kb56, lb56⟩ := sh_f w_I53.1 kv0 (j := 11) (k := 14) (m := 6) rfl
            cases eb56.symm.trans ex57
            have t59 : 0 ≤ (I53 v0 8).toInt ∧ (I53 v0 8).toInt ≤ 6 := w_I53.fld 12 8 kv0 (by decide)
            have o60 : vp_in (I53 v0 8) 6 := vi_of rfl (by omega) (by omega)
            refine ⟨o60, ?_⟩
            intro I61 eI61
            have w_I61 : WD Z I61 := by rw [eI61]; exact WD_putA w_I53 12 11 kv0 eb56 kb56 rfl rfl (by decide) (by constructor <;> omega)
            have f_I61 : FR [(12, 11)] Z I53 Z I61 := by rw [eI61]; exact FR_upA w_I53.2.1 kv0 eb56 kb56 rfl rfl List.mem_cons_self
            have q_I61 : FR Ws_X12_pilgrim Z I Z I61 := q_I53.trans w_I.1 w_I.2.1 (f_I61.mono (by decide))
            have u62 : (I61 v0 22).toInt = (I53 v0 22).toInt := by rw [f_I61.2.2.1 v0 12 22 kv0 (by decide) (by decide)]
            have u63 : (I61 v0 8).toInt = (I53 v0 8).toInt := by rw [f_I61.2.2.1 v0 12 8 kv0 (by decide) (by decide)]
            intro b64 eb64
            obtain ⟨x65, ex65, kb64, lb64⟩ := sh_f w_I61.1 kv0 (j := 12) (k := 14) (m := 6) rfl
            cases eb64.symm.trans ex65
            have t67 : 0 ≤ (I61 v0 8).toInt ∧ (I61 v0 8).toInt ≤ 6 := w_I61.fld 12 8 kv0 (by decide)
            have o68 : vp_in (I61 v0 8) 6 := vi_of rfl (by omega) (by omega)
            refine ⟨o68, ?_⟩
            intro I69 eI69
            have w_I69 : WD Z I69 := by rw [eI69]; exact WD_putA w_I61 12 12 kv0 eb64 kb64 rfl rfl (by decide) (by constructor <;> omega)
            have f_I69 : FR [(12, 12)] Z I61 Z I69 := by rw [eI69]; exact FR_upA w_I61.2.1 kv0 eb64 kb64 rfl rfl List.mem_cons_self
            have q_I69 : FR Ws_X12_pilgrim Z I Z I69 := q_I61.trans w_I.1 w_I.2.1 (f_I69.mono (by decide))
            have u70 : (I69 v0 22).toInt = (I61 v0 22).toInt := by rw [f_I69.2.2.1 v0 12 22 kv0 (by decide) (by decide)]
            have u71 : (I69 v0 8).toInt = (I61 v0 8).toInt := by rw [f_I69.2.2.1 v0 12 8 kv0 (by decide) (by decide)]
            intro b72 eb72
            obtain ⟨x73, ex73, kb72, lb72⟩ := sh_f w_I69.1 kv0 (j := 13) (k := 14) (m := 6) rfl
            cases eb72.symm.trans ex73
            have t75 : 0 ≤ (I69 v0 8).toInt ∧ (I69 v0 8).toInt ≤ 6 := w_I69.fld 12 8 kv0 (by decide)
            have o76 : vp_in (I69 v0 8) 6 := vi_of rfl (by omega) (by omega)
            refine ⟨o76, ?_⟩
            intro I77 eI77
            have t78 : (0 : Int32).toInt = 0 := rfl
            have w_I77 : WD Z I77 := by rw [eI77]; exact WD_putA w_I69 12 13 kv0 eb72 kb72 rfl rfl (by decide) trivial
            have f_I77 : FR [(12, 13)] Z I69 Z I77 := by rw [eI77]; exact FR_upA w_I69.2.1 kv0 eb72 kb72 rfl rfl List.mem_cons_self
            have q_I77 : FR Ws_X12_pilgrim Z I Z I77 := q_I69.trans w_I.1 w_I.2.1 (f_I77.mono (by decide))
            have u79 : (I77 v0 22).toInt = (I69 v0 22).toInt := by rw [f_I77.2.2.1 v0 12 22 kv0 (by decide) (by decide)]
            have u80 : (I77 v0 8).toInt = (I69 v0 8).toInt := by rw [f_I77.2.2.1 v0 12 8 kv0 (by decide) (by decide)]
            intro b81 eb81
            obtain ⟨x82, ex82, kb81, lb81⟩ := sh_f w_I77.1 kv0 (j := 14) (k := 14) (m := 6) rfl
            cases eb81.symm.trans ex82
            have t84 : 0 ≤ (I77 v0 8).toInt ∧ (I77 v0 8).toInt ≤ 6 := w_I77.fld 12 8 kv0 (by decide)
            have o85 : vp_in (I77 v0 8) 6 := vi_of rfl (by omega) (by omega)
            refine ⟨o85, ?_⟩
            intro I86 eI86
            have t87 : (-1 : Int32).toInt = -1 := rfl
            have w_I86 : WD Z I86 := by rw [eI86]; exact WD_putA w_I77 12 14 kv0 eb81 kb81 rfl rfl (by decide) (by constructor <;> omega)
            have f_I86 : FR [(12, 14)] Z I77 Z I86 := by rw [eI86]; exact FR_upA w_I77.2.1 kv0 eb81 kb81 rfl rfl List.mem_cons_self
            have q_I86 : FR Ws_X12_pilgrim Z I Z I86 := q_I77.trans w_I.1 w_I.2.1 (f_I86.mono (by decide))
            have u88 : (I86 v0 22).toInt = (I77 v0 22).toInt := by rw [f_I86.2.2.1 v0 12 22 kv0 (by decide) (by decide)]
            have u89 : (I86 v0 8).toInt = (I77 v0 8).toInt := by rw [f_I86.2.2.1 v0 12 8 kv0 (by decide) (by decide)]
            intro b90 eb90
            obtain ⟨x91, ex91, kb90, lb90⟩ := sh_f w_I86.1 kv0 (j := 15) (k := 14) (m := 6) rfl
            cases eb90.symm.trans ex91
            have t93 : 0 ≤ (I86 v0 8).toInt ∧ (I86 v0 8).toInt ≤ 6 := w_I86.fld 12 8 kv0 (by decide)
            have o94 : vp_in (I86 v0 8) 6 := vi_of rfl (by omega) (by omega)
            refine ⟨o94, ?_⟩
            intro I95 eI95
            have w_I95 : WD Z I95 := by rw [eI95]; exact WD_putA w_I86 12 15 kv0 eb90 kb90 rfl rfl (by decide) trivial
            have f_I95 : FR [(12, 15)] Z I86 Z I95 := by rw [eI95]; exact FR_upA w_I86.2.1 kv0 eb90 kb90 rfl rfl List.mem_cons_self
            have q_I95 : FR Ws_X12_pilgrim Z I Z I95 := q_I86.trans w_I.1 w_I.2.1 (f_I95.mono (by decide))
            have u96 : (I95 v0 22).toInt = (I86 v0 22).toInt := by rw [f_I95.2.2.1 v0 12 22 kv0 (by decide) (by decide)]
            have u97 : (I95 v0 8).toInt = (I86 v0 8).toInt := by rw [f_I95.2.2.1 v0 12 8 kv0 (by decide) (by decide)]
            intro b98 eb98
            obtain ⟨x99, ex99, kb98, lb98⟩ := sh_f w_I95.1 kv0 (j := 16) (k := 14) (m := 6) rfl
            cases eb98.symm.trans ex99
            have t101 : 0 ≤ (I95 v0 8).toInt ∧ (I95 v0 8).toInt ≤ 6 := w_I95.fld 12 8 kv0 (by decide)
            have o102 : vp_in (I95 v0 8) 6 := vi_of rfl (by omega) (by omega)
            refine ⟨o102, ?_⟩
            intro I103 eI103
            have w_I103 : WD Z I103 := by rw [eI103]; exact WD_putA w_I95 12 16 kv0 eb98 kb98 rfl rfl (by decide) trivial
            have f_I103 : FR [(12, 16)] Z I95 Z I103 := by rw [eI103]; exact FR_upA w_I95.2.1 kv0 eb98 kb98 rfl rfl List.mem_cons_self
            have q_I103 : FR Ws_X12_pilgrim Z I Z I103 := q_I95.trans w_I.1 w_I.2.1 (f_I103.mono (by decide))
            have u104 : (I103 v0 22).toInt = (I95 v0 22).toInt := by rw [f_I103.2.2.1 v0 12 22 kv0 (by decide) (by decide)]
            have u105 : (I103 v0 8).toInt = (I95 v0 8).toInt := by rw [f_I103.2.2.1 v0 12 8 kv0 (by decide) (by decide)]
            have t107 : 0 ≤ (I103 v0 8).toInt ∧ (I103 v0 8).toInt ≤ 6 := w_I103.fld 12 8 kv0 (by decide)
            intro I108 eI108
            try (have t109 : ((I103 v0 8) + (1 : Int32)).toInt = ((I103 v0 8).toInt + (1)) := (i_add rfl (show (1 : Int32).toInt = 1 from rfl) (by omega) (by omega)))
            have w_I108 : WD Z I108 := by rw [eI108]; exact WD_putF w_I103 12 8 kv0 (by decide) (by decide) (by constructor <;> omega)
            have f_I108 : FR [(12, 8)] Z I103 Z I108 := by rw [eI108]; exact FR_putF kv0 (by decide) List.mem_cons_self
            have q_I108 : FR Ws_X12_pilgrim Z I Z I108 := q_I103.trans w_I.1 w_I.2.1 (f_I108.mono (by decide))
            have u110 : (I108 v0 22).toInt = (I103 v0 22).toInt := by rw [f_I108.2.2.1 v0 12 22 kv0 (by decide) (by decide)]
            first | (have u111 : (I108 v0 8).toInt = ((I103 v0 8).toInt + (1)) := by (rw [eI108, show jpI I103 v0 8 ((I103 v0 8) + (1 : Int32)) v0 8 = ((I103 v0 8) + (1 : Int32)) from jpI_at] <;> exact (i_add rfl (show (1 : Int32).toInt = 1 from rfl) (by omega) (by omega)))) | skip
            have t113 : 0 ≤ (I108 v0 8).toInt ∧ (I108 v0 8).toInt ≤ 6 := w_I108.fld 12 8 kv0 (by decide)
            try (have t114 : ((I108 v0 8) - (1 : Int32)).toInt = ((I108 v0 8).toInt - (1)) := (i_sub rfl (show (1 : Int32).toInt = 1 from rfl) (by omega) (by omega)))
            exact hQ ((I108 v0 8) - (1 : Int32)) I108 L w_I108 q_I108 
          · skip
            first | (have t115 : (I1 v0 8).toInt = (6) := (i_eq rfl (show (6 : Int32).toInt = 6 from rfl)).mp c38) | (have t115 : (I1 v0 8).toInt = (6 : Int32).toInt := (i_eq rfl rfl).mp c38) | skip
            have t116 : (-1 : Int32).toInt = -1 := rfl
            exact hQ (-1 : Int32) I1 L w_I1 q_I1 
def Ws_X12_vow : List (Nat × Nat) := [(12, 13), (12, 22)]
set_option maxHeartbeats 4000000 in
set_option maxRecDepth 100000 in
theorem s_X12_vow {Z : jZ} {I : jI} {L : jL} (w_I : WD Z I) (v0 : Nat) (v1 : Int32) (v2 : Int32) (kv0 : jk Z v0 12) {Q : Int32 → jI → jL → Prop} (hQ : ∀ (r : Int32) (I' : jI) (L' : jL), WD Z I' → FR Ws_X12_vow Z I Z I' → Q r I' L') : f_X12_vow v0 v1 v2 Z I L Q := by
  unfold f_X12_vow
  have q_I : FR Ws_X12_vow Z I Z I := FR.rf
  have rv1 := i_rng v1
  have rv2 := i_rng v2
  intro I1 eI1
  have t2 : (0 : Int32).toInt = 0 := rfl
  have w_I1 : WD Z I1 := by rw [eI1]; exact WD_putF w_I 12 22 kv0 (by decide) (by decide) trivial
  have f_I1 : FR [(12, 22)] Z I Z I1 := by rw [eI1]; exact FR_putF kv0 (by decide) List.mem_cons_self
  have q_I1 : FR Ws_X12_vow Z I Z I1 := q_I.trans w_I.1 w_I.2.1 (f_I1.mono (by decide))
  first | (have u3 : (I1 v0 22).toInt = (0) := by (rw [eI1, show jpI I v0 22 (0 : Int32) v0 22 = (0 : Int32) from jpI_at] <;> exact (show (0 : Int32).toInt = 0 from rfl))) | skip
  refine s_X12_isOne w_I1 v0 v1 kv0   (fun r4 p5 => ?_)
  have rr4 := i_rng r4
  refine ⟨fun c6 => ?_, fun c6 => ?_⟩
  · skip
    first | (have t7 : r4.toInt = (0) := (i_eq rfl (show (0 : Int32).toInt = 0 from rfl)).mp c6) | (have t7 : r4.toInt = (0 : Int32).toInt := (i_eq rfl rfl).mp c6) | skip
    have t8 : (-1 : Int32).toInt = -1 := rfl
    exact hQ (-1 : Int32) I1 L w_I1 q_I1 
  · skip
    first | (have t9 : ¬ (r4.toInt = (0)) := (not_congr (i_eq rfl (show (0 : Int32).toInt = 0 from rfl))).mp c6) | (have t9 : ¬ (r4.toInt = (0 : Int32).toInt) := (not_congr (i_eq rfl rfl)).mp c6) | skip
    have t10 : (0 : Int32).toInt = 0 := rfl
    have t11 : (255 : Int32).toInt = 255 := rfl
    refine s_X12_in w_I1 v2 (0 : Int32) (255 : Int32)    (fun r12 p13 => ?_)
    have rr12 := i_rng r12
    refine ⟨fun c14 => ?_, fun c14 => ?_⟩
    · skip
      first | (have t15 : ¬ (r12.toInt = (0)) := (not_congr (i_eq rfl (show (0 : Int32).toInt = 0 from rfl))).mp c14) | (have t15 : ¬ (r12.toInt = (0 : Int32).toInt) := (not_congr (i_eq rfl rfl)).mp c14) | skip
      intro b16 eb16
      obtain ⟨x17, ex17, kb16, lb16⟩ := sh_f w_I1.1 kv0 (j := 13) (k := 14) (m := 6) rfl
      cases eb16.symm.trans ex17
      have o18 : vp_in v1 6 := vi_of rfl (by omega) (by omega)
      refine ⟨o18, ?_⟩
      intro x19 ex19
      have rx19 := i_rng x19
      first | (have tx19 : x19.toInt = (I1 b16 v1.toNatClampNeg).toInt := by (rw [ex19]; exact rfl)) | (have tx19 : x19.toInt = (I1 b16 v1.toNatClampNeg).toInt := by rw [ex19])
      intro b20 eb20
      obtain rfl : b16 = b20 := Option.some.inj (eb16.symm.trans eb20)
      have o21 : vp_in v1 6 := vi_of rfl (by omega) (by omega)
      refine ⟨o21, ?_⟩
      intro I22 eI22
      have w_I22 : WD Z I22 := by rw [eI22]; exact WD_putA w_I1 12 13 kv0 eb16 kb16 rfl rfl (by decide) trivial
      have f_I22 : FR [(12, 13)] Z I1 Z I22 := by rw [eI22]; exact FR_upA w_I1.2.1 kv0 eb16 kb16 rfl rfl List.mem_cons_self
      have q_I22 : FR Ws_X12_vow Z I Z I22 := q_I1.trans w_I.1 w_I.2.1 (f_I22.mono (by decide))
      have u23 : (I22 v0 22).toInt = (I1 v0 22).toInt := by rw [f_I22.2.2.1 v0 12 22 kv0 (by decide) (by decide)]
      exact hQ x19 I22 L w_I22 q_I22 
    · skip
      first | (have t24 : r12.toInt = (0) := (i_eq rfl (show (0 : Int32).toInt = 0 from rfl)).mp c14) | (have t24 : r12.toInt = (0 : Int32).toInt := (i_eq rfl rfl).mp c14) | skip
      have t25 : (-1 : Int32).toInt = -1 := rfl
      exact hQ (-1 : Int32) I1 L w_I1 q_I1 
def Ws_X12_of : List (Nat × Nat) := [(12, 22)]
set_option maxHeartbeats 4000000 in
set_option maxRecDepth 100000 in
theorem s_X12_of {Z : jZ} {I : jI} {L : jL} (w_I : WD Z I) (v0 : Nat) (v1 : Int32) (v2 : Int32) (kv0 : jk Z v0 12) {Q : Int32 → jI → jL → Prop} (hQ : ∀ (r : Int32) (I' : jI) (L' : jL), WD Z I' → FR Ws_X12_of Z I Z I' → Q r I' L') : f_X12_of v0 v1 v2 Z I L Q := by
  unfold f_X12_of
  have q_I : FR Ws_X12_of Z I Z I := FR.rf
  have rv1 := i_rng v1
  have rv2 := i_rng v2
  intro I1 eI1
  have t2 : (0 : Int32).toInt = 0 := rfl
  have w_I1 : WD Z I1 := by rw [eI1]; exact WD_putF w_I 12 22 kv0 (by decide) (by decide) trivial
  have f_I1 : FR [(12, 22)] Z I Z I1 := by rw [eI1]; exact FR_putF kv0 (by decide) List.mem_cons_self
  have q_I1 : FR Ws_X12_of Z I Z I1 := q_I.trans w_I.1 w_I.2.1 (f_I1.mono (by decide))
  first | (have u3 : (I1 v0 22).toInt = (0) := by (rw [eI1, show jpI I v0 22 (0 : Int32) v0 22 = (0 : Int32) from jpI_at] <;> exact (show (0 : Int32).toInt = 0 from rfl))) | skip
  refine s_X12_isOne w_I1 v0 v1 kv0   (fun r4 p5 => ?_)
  have rr4 := i_rng r4
  refine ⟨fun c6 => ?_, fun c6 => ?_⟩
  · skip
    first | (have t7 : r4.toInt = (0) := (i_eq rfl (show (0 : Int32).toInt = 0 from rfl)).mp c6) | (have t7 : r4.toInt = (0 : Int32).toInt := (i_eq rfl rfl).mp c6) | skip
    unfold f_X12_of_b23
    refine s_X12_lost w_I1 v0 kv0   (fun r8 I9 L10 w_I9 f_I9  => ?_)
    have q_I9 : FR Ws_X12_of Z I Z I9 := q_I1.trans w_I.1 w_I.2.1 (f_I9.mono (by decide))
    have rr8 := i_rng r8
    exact hQ r8 I9 L10 w_I9 q_I9 
  · skip
    first | (have t11 : ¬ (r4.toInt = (0)) := (not_congr (i_eq rfl (show (0 : Int32).toInt = 0 from rfl))).mp c6) | (have t11 : ¬ (r4.toInt = (0 : Int32).toInt) := (not_congr (i_eq rfl rfl)).mp c6) | skip
    have t12 : (0 : Int32).toInt = 0 := rfl
    have t13 : (7 : Int32).toInt = 7 := rfl
    refine s_X12_in w_I1 v2 (0 : Int32) (7 : Int32)    (fun r14 p15 => ?_)
    have rr14 := i_rng r14
    refine ⟨fun c16 => ?_, fun c16 => ?_⟩
    · skip
      first | (have t17 : ¬ (r14.toInt = (0)) := (not_congr (i_eq rfl (show (0 : Int32).toInt = 0 from rfl))).mp c16) | (have t17 : ¬ (r14.toInt = (0 : Int32).toInt) := (not_congr (i_eq rfl rfl)).mp c16) | skip
      refine ⟨fun c18 => ?_, fun c18 => ?_⟩
      · skip
        first | (have t19 : v2.toInt = (0) := (i_eq rfl (show (0 : Int32).toInt = 0 from rfl)).mp c18) | (have t19 : v2.toInt = (0 : Int32).toInt := (i_eq rfl rfl).mp c18) | skip
        intro b20 eb20
        obtain ⟨x21, ex21, kb20, lb20⟩ := sh_f w_I1.1 kv0 (j := 14) (k := 14) (m := 6) rfl
        cases eb20.symm.trans ex21
        have o22 : vp_in v1 6 := vi_of rfl (by omega) (by omega)
        refine ⟨o22, ?_⟩
        have t23 : -1 ≤ (I1 b20 v1.toNatClampNeg).toInt ∧ (I1 b20 v1.toNatClampNeg).toInt ≤ 23 := w_I1.arr 12 14 kv0 eb20 kb20 rfl rfl _
        exact hQ (I1 b20 v1.toNatClampNeg) I1 L w_I1 q_I1 
      · skip
        first | (have t24 : ¬ (v2.toInt = (0)) := (not_congr (i_eq rfl (show (0 : Int32).toInt = 0 from rfl))).mp c18) | (have t24 : ¬ (v2.toInt = (0 : Int32).toInt) := (not_congr (i_eq rfl rfl)).mp c18) | skip
        refine ⟨fun c25 => ?_, fun c25 => ?_⟩
        · skip
          first | (have t26 : v2.toInt = (1) := (i_eq rfl (show (1 : Int32).toInt = 1 from rfl)).mp c25) | (have t26 : v2.toInt = (1 : Int32).toInt := (i_eq rfl rfl).mp c25) | skip
          intro b27 eb27
          obtain ⟨x28, ex28, kb27, lb27⟩ := sh_f w_I1.1 kv0 (j := 15) (k := 14) (m := 6) rfl
          cases eb27.symm.trans ex28
          have o29 : vp_in v1 6 := vi_of rfl (by omega) (by omega)
          refine ⟨o29, ?_⟩
          exact hQ (I1 b27 v1.toNatClampNeg) I1 L w_I1 q_I1 
        · skip
          first | (have t30 : ¬ (v2.toInt = (1)) := (not_congr (i_eq rfl (show (1 : Int32).toInt = 1 from rfl))).mp c25) | (have t30 : ¬ (v2.toInt = (1 : Int32).toInt) := (not_congr (i_eq rfl rfl)).mp c25) | skip
          refine ⟨fun c31 => ?_, fun c31 => ?_⟩
          · skip
            first | (have t32 : v2.toInt = (2) := (i_eq rfl (show (2 : Int32).toInt = 2 from rfl)).mp c31) | (have t32 : v2.toInt = (2 : Int32).toInt := (i_eq rfl rfl).mp c31) | skip
            intro b33 eb33
            obtain ⟨x34, ex34, kb33, lb33⟩ := sh_f w_I1.1 kv0 (j := 16) (k := 14) (m := 6) rfl
            cases eb33.symm.trans ex34
            have o35 : vp_in v1 6 := vi_of rfl (by omega) (by omega)
            refine ⟨o35, ?_⟩
            exact hQ (I1 b33 v1.toNatClampNeg) I1 L w_I1 q_I1 
          · skip
            first | (have t36 : ¬ (v2.toInt = (2)) := (not_congr (i_eq rfl (show (2 : Int32).toInt = 2 from rfl))).mp c31) | (have t36 : ¬ (v2.toInt = (2 : Int32).toInt) := (not_congr (i_eq rfl rfl)).mp c31) | skip
            refine ⟨fun c37 => ?_, fun c37 => ?_⟩
            · skip
              first | (have t38 : v2.toInt = (3) := (i_eq rfl (show (3 : Int32).toInt = 3 from rfl)).mp c37) | (have t38 : v2.toInt = (3 : Int32).toInt := (i_eq rfl rfl).mp c37) | skip
              intro b39 eb39
              obtain ⟨x40, ex40, kb39, lb39⟩ := sh_f w_I1.1 kv0 (j := 11) (k := 14) (m := 6) rfl
              cases eb39.symm.trans ex40
              have o41 : vp_in v1 6 := vi_of rfl (by omega) (by omega)
              refine ⟨o41, ?_⟩
              have t42 : 0 ≤ (I1 b39 v1.toNatClampNeg).toInt ∧ (I1 b39 v1.toNatClampNeg).toInt ≤ 3 := w_I1.arr 12 11 kv0 eb39 kb39 rfl rfl _
              exact hQ (I1 b39 v1.toNatClampNeg) I1 L w_I1 q_I1 
            · skip
              first | (have t43 : ¬ (v2.toInt = (3)) := (not_congr (i_eq rfl (show (3 : Int32).toInt = 3 from rfl))).mp c37) | (have t43 : ¬ (v2.toInt = (3 : Int32).toInt) := (not_congr (i_eq rfl rfl)).mp c37) | skip
              refine ⟨fun c44 => ?_, fun c44 => ?_⟩
              · skip
                first | (have t45 : v2.toInt = (4) := (i_eq rfl (show (4 : Int32).toInt = 4 from rfl)).mp c44) | (have t45 : v2.toInt = (4 : Int32).toInt := (i_eq rfl rfl).mp c44) | skip
                intro b46 eb46
                obtain ⟨x47, ex47, kb46, lb46⟩ := sh_f w_I1.1 kv0 (j := 12) (k := 14) (m := 6) rfl
                cases eb46.symm.trans ex47
                have o48 : vp_in v1 6 := vi_of rfl (by omega) (by omega)
                refine ⟨o48, ?_⟩
                have t49 : 0 ≤ (I1 b46 v1.toNatClampNeg).toInt ∧ (I1 b46 v1.toNatClampNeg).toInt ≤ 50 := w_I1.arr 12 12 kv0 eb46 kb46 rfl rfl _
                exact hQ (I1 b46 v1.toNatClampNeg) I1 L w_I1 q_I1 
              · skip
                first | (have t50 : ¬ (v2.toInt = (4)) := (not_congr (i_eq rfl (show (4 : Int32).toInt = 4 from rfl))).mp c44) | (have t50 : ¬ (v2.toInt = (4 : Int32).toInt) := (not_congr (i_eq rfl rfl)).mp c44) | skip
                refine ⟨fun c51 => ?_, fun c51 => ?_⟩
                · skip
                  first | (have t52 : v2.toInt = (5) := (i_eq rfl (show (5 : Int32).toInt = 5 from rfl)).mp c51) | (have t52 : v2.toInt = (5 : Int32).toInt := (i_eq rfl rfl).mp c51) | skip
                  intro b53 eb53
                  obtain ⟨x54, ex54, kb53, lb53⟩ := sh_f w_I1.1 kv0 (j := 13) (k := 14) (m := 6) rfl
                  cases eb53.symm.trans ex54
                  have o55 : vp_in v1 6 := vi_of rfl (by omega) (by omega)
                  refine ⟨o55, ?_⟩
                  exact hQ (I1 b53 v1.toNatClampNeg) I1 L w_I1 q_I1 
                · skip
                  first | (have t56 : ¬ (v2.toInt = (5)) := (not_congr (i_eq rfl (show (5 : Int32).toInt = 5 from rfl))).mp c51) | (have t56 : ¬ (v2.toInt = (5 : Int32).toInt) := (not_congr (i_eq rfl rfl)).mp c51) | skip
                  refine ⟨fun c57 => ?_, fun c57 => ?_⟩
                  · skip
                    first | (have t58 : v2.toInt = (6) := (i_eq rfl (show (6 : Int32).toInt = 6 from rfl)).mp c57) | (have t58 : v2.toInt = (6 : Int32).toInt := (i_eq rfl rfl).mp c57) | skip
                    intro b59 eb59
                    obtain ⟨x60, ex60, kb59, lb59⟩ := sh_f w_I1.1 kv0 (j := 9) (k := 14) (m := 6) rfl
                    cases eb59.symm.trans ex60
                    have o61 : vp_in v1 6 := vi_of rfl (by omega) (by omega)
                    refine ⟨o61, ?_⟩
                    have t62 : 0 ≤ (I1 b59 v1.toNatClampNeg).toInt ∧ (I1 b59 v1.toNatClampNeg).toInt ≤ 120 := w_I1.arr 12 9 kv0 eb59 kb59 rfl rfl _
                    exact hQ (I1 b59 v1.toNatClampNeg) I1 L w_I1 q_I1 
                  · skip
                    first | (have t63 : ¬ (v2.toInt = (6)) := (not_congr (i_eq rfl (show (6 : Int32).toInt = 6 from rfl))).mp c57) | (have t63 : ¬ (v2.toInt = (6 : Int32).toInt) := (not_congr (i_eq rfl rfl)).mp c57) | skip
                    intro b64 eb64
                    obtain ⟨x65, ex65, kb64, lb64⟩ := sh_f w_I1.1 kv0 (j := 10) (k := 14) (m := 6) rfl
                    cases eb64.symm.trans ex65
                    have o66 : vp_in v1 6 := vi_of rfl (by omega) (by omega)
                    refine ⟨o66, ?_⟩
                    have t67 : 0 ≤ (I1 b64 v1.toNatClampNeg).toInt ∧ (I1 b64 v1.toNatClampNeg).toInt ≤ 999 := w_I1.arr 12 10 kv0 eb64 kb64 rfl rfl _
                    exact hQ (I1 b64 v1.toNatClampNeg) I1 L w_I1 q_I1 
    · skip
      first | (have t68 : r14.toInt = (0) := (i_eq rfl (show (0 : Int32).toInt = 0 from rfl)).mp c16) | (have t68 : r14.toInt = (0 : Int32).toInt := (i_eq rfl rfl).mp c16) | skip
      unfold f_X12_of_b23
      refine s_X12_lost w_I1 v0 kv0   (fun r69 I70 L71 w_I70 f_I70  => ?_)
      have q_I70 : FR Ws_X12_of Z I Z I70 := q_I1.trans w_I.1 w_I.2.1 (f_I70.mono (by decide))
      have rr69 := i_rng r69
      exact hQ r69 I70 L71 w_I70 q_I70 
set_option maxHeartbeats 4000000 in
set_option maxRecDepth 100000 in
theorem s_X12_isMove {Z : jZ} {I : jI} {L : jL} (w_I : WD Z I) (v0 : Nat) (v1 : Int32) (v2 : Int32) (v3 : Int32) (kv0 : jk Z v0 12) (p0 : 0 ≤ v1.toInt ∧ v1.toInt ≤ 5 ∧ -1 ≤ v2.toInt ∧ v2.toInt ≤ 23 ∧ 0 ≤ v3.toInt ∧ v3.toInt ≤ 23) {Q : Int32 → jI → jL → Prop} (hQ : ∀ (r : Int32), (r.toInt = 0 ∨ (v2.toInt < v3.toInt ∧ v3.toInt - v2.toInt ≤ 3)) → Q r I L) : f_X12_isMove v0 v1 v2 v3 Z I L Q := by
  unfold f_X12_isMove
  have rv1 := i_rng v1
  have rv2 := i_rng v2
  have rv3 := i_rng v3
  intro b1 eb1
  obtain ⟨x2, ex2, kb1, lb1⟩ := sh_f w_I.1 kv0 (j := 11) (k := 14) (m := 6) rfl
  cases eb1.symm.trans ex2
  have o3 : vp_in v1 6 := vi_of rfl (by omega) (by omega)
  refine ⟨o3, ?_⟩
  have t4 : 0 ≤ (I b1 v1.toNatClampNeg).toInt ∧ (I b1 v1.toNatClampNeg).toInt ≤ 3 := w_I.arr 12 11 kv0 eb1 kb1 rfl rfl _
  try (have t5 : (v3 - v2).toInt = (v3.toInt - v2.toInt) := (i_sub rfl rfl (by omega) (by omega)))
  have t6 : (1 : Int32).toInt = 1 := rfl
  refine s_X12_in w_I (v3 - v2) (1 : Int32) (I b1 v1.toNatClampNeg)    (fun r7 p8 => ?_)
  have rr7 := i_rng r7
  exact hQ r7 (by omega)
def Ws_X12_divide : List (Nat × Nat) := [(12, 35)]
set_option maxHeartbeats 4000000 in
set_option maxRecDepth 100000 in
theorem l_X12_divide_L147 {Z : jZ} {I0 : jI} {Q : jI → jL → Prop} (w0 : WD Z I0) (v0 : Nat) (v1 : Int32) (v2 : Int32) (kv0 : jk Z v0 12) (p0 : (0 ≤ v2.toInt ∧ v2.toInt ≤ 23) ∨ 1 ≤ (I0 v0 0).toInt) (v5 : Int32) (hQ : ∀  (I' : jI) (L' : jL), WD Z I' → FR Ws_X12_divide Z I0 Z I' → Q I' L') {K136 : Nat → Int32 → jI → jL → Prop} {N136 : Int} (hK136 : ∀ (v5 : Int32) (I : jI) (L : jL), WD Z I → FR Ws_X12_divide Z I0 Z I →   (v5.toInt ≤ 2147483647) → max 0 v5.toInt < N136 → K136 v0 v5 I L) : ∀ (n : Nat) (v6 : Int32) (v7 : Int32) (I : jI) (L : jL), WD Z I → FR Ws_X12_divide Z I0 Z I →   (1 ≤ v5.toInt ∧ 0 ≤ v6.toInt ∧ v6.toInt ≤ 7 ∧ 1 ≤ v7.toInt ∧ v7.toInt ≤ 8) → max 0 v5.toInt ≤ N136 → 8 - v7.toInt < (n : Int) → f_X12_divide_L147 K136 Z Q n v0 v5 v6 v7 I L := by
  intro n
  induction n with
  | zero =>
    intro v6 v7 I L w_I q_I   li hm136 me
    exfalso
    omega
  | succ n ih =>
    intro v6 v7 I L w_I q_I   li hm136 me
    unfold f_X12_divide_L147
    have rv6 := i_rng v6
    have rv7 := i_rng v7
    have rv5 := i_rng v5
    have rv1 := i_rng v1
    have rv2 := i_rng v2
    refine ⟨fun c1 => ?_, fun c1 => ?_⟩
    · skip
      first | (have t2 : (8) ≤ v7.toInt := (i_le (show (8 : Int32).toInt = 8 from rfl) rfl).mp c1) | (have t2 : (8 : Int32).toInt ≤ v7.toInt := (i_le rfl rfl).mp c1) | skip
      intro b3 eb3
      obtain ⟨x4, ex4, kb3, lb3⟩ := sh_f w_I.1 kv0 (j := 35) (k := 14) (m := 8) rfl
      cases eb3.symm.trans ex4
      have o5 : vp_in v6 8 := vi_of rfl (by omega) (by omega)
      refine ⟨o5, ?_⟩
      have o6 : vp_in v6 8 := vi_of rfl (by omega) (by omega)
      refine ⟨o6, ?_⟩
      intro I7 eI7
      try (have t8 : ((I b3 v6.toNatClampNeg) + (1 : Int32)).toInt = ((I b3 v6.toNatClampNeg).toInt + (1)) := (i_add rfl (show (1 : Int32).toInt = 1 from rfl) (by omega) (by omega)))
      have w_I7 : WD Z I7 := by rw [eI7]; exact WD_putA w_I 12 35 kv0 eb3 kb3 rfl rfl (by decide) trivial
      have f_I7 : FR [(12, 35)] Z I Z I7 := by rw [eI7]; exact FR_upA w_I.2.1 kv0 eb3 kb3 rfl rfl List.mem_cons_self
      have q_I7 : FR Ws_X12_divide Z I0 Z I7 := q_I.trans w0.1 w0.2.1 (f_I7.mono (by decide))
      intro b9 eb9
      obtain ⟨x10, ex10, kb9, lb9⟩ := sh_f w_I7.1 kv0 (j := 36) (k := 15) (m := 8) rfl
      cases eb9.symm.trans ex10
      have o11 : vp_in v6 8 := vi_of rfl (by omega) (by omega)
      refine ⟨o11, ?_⟩
      intro L12 eL12
      intro x13 ex13
      have rx13 := i_rng x13
      first | (have tx13 : x13.toInt = v5.toInt + (-1) := by (rw [ex13]; exact (i_add rfl (show (-1 : Int32).toInt = -1 from rfl) (by omega) (by omega)))) | skip
      exact hK136 x13 I7 L12 w_I7 q_I7   (by omega)  (by omega)
    · skip
      first | (have t14 : ¬ ((8) ≤ v7.toInt) := (not_congr (i_le (show (8 : Int32).toInt = 8 from rfl) rfl)).mp c1) | (have t14 : ¬ ((8 : Int32).toInt ≤ v7.toInt) := (not_congr (i_le rfl rfl)).mp c1) | skip
      intro b15 eb15
      obtain ⟨x16, ex16, kb15, lb15⟩ := sh_f w_I.1 kv0 (j := 36) (k := 15) (m := 8) rfl
      cases eb15.symm.trans ex16
      have o17 : vp_in v7 8 := vi_of rfl (by omega) (by omega)
      refine ⟨o17, ?_⟩
      intro b18 eb18
      obtain rfl : b15 = b18 := Option.some.inj (eb15.symm.trans eb18)
      have o19 : vp_in v6 8 := vi_of rfl (by omega) (by omega)
      refine ⟨o19, ?_⟩
      refine ⟨fun c20 => ?_, fun c20 => ?_⟩
      · skip
        first | (have t21 : (lg_cmp (L b15 v7.toNatClampNeg) (L b15 v6.toNatClampNeg)).toInt ≤ (0) := (i_le rfl (show (0 : Int32).toInt = 0 from rfl)).mp c20) | (have t21 : (lg_cmp (L b15 v7.toNatClampNeg) (L b15 v6.toNatClampNeg)).toInt ≤ (0 : Int32).toInt := (i_le rfl rfl).mp c20) | skip
        unfold f_X12_divide_b176
        intro x22 ex22
        have rx22 := i_rng x22
        first | (have tx22 : x22.toInt = v7.toInt + (1) := by (rw [ex22]; exact (i_add rfl (show (1 : Int32).toInt = 1 from rfl) (by omega) (by omega)))) | skip
        exact ih v6 x22 I L w_I q_I   (by omega) (by omega) (by omega)
      · skip
        first | (have t23 : ¬ ((lg_cmp (L b15 v7.toNatClampNeg) (L b15 v6.toNatClampNeg)).toInt ≤ (0)) := (not_congr (i_le rfl (show (0 : Int32).toInt = 0 from rfl))).mp c20) | (have t23 : ¬ ((lg_cmp (L b15 v7.toNatClampNeg) (L b15 v6.toNatClampNeg)).toInt ≤ (0 : Int32).toInt) := (not_congr (i_le rfl rfl)).mp c20) | skip
        unfold f_X12_divide_b176
        intro x24 ex24
        have rx24 := i_rng x24
        first | (have tx24 : x24.toInt = v7.toInt + (1) := by (rw [ex24]; exact (i_add rfl (show (1 : Int32).toInt = 1 from rfl) (by omega) (by omega)))) | skip
        exact ih v7 x24 I L w_I q_I   (by omega) (by omega) (by omega)
set_option maxHeartbeats 4000000 in
set_option maxRecDepth 100000 in
theorem l_X12_divide_L136 {Z : jZ} {I0 : jI} {Q : jI → jL → Prop} (w0 : WD Z I0) (v0 : Nat) (v1 : Int32) (v2 : Int32) (kv0 : jk Z v0 12) (p0 : (0 ≤ v2.toInt ∧ v2.toInt ≤ 23) ∨ 1 ≤ (I0 v0 0).toInt) (hQ : ∀  (I' : jI) (L' : jL), WD Z I' → FR Ws_X12_divide Z I0 Z I' → Q I' L') : ∀ (n : Nat) (v5 : Int32) (I : jI) (L : jL), WD Z I → FR Ws_X12_divide Z I0 Z I →   (v5.toInt ≤ 2147483647) → max 0 v5.toInt < (n : Int) → f_X12_divide_L136  Z Q n v0 v5 I L := by
  intro n
  induction n with
  | zero =>
    intro v5 I L w_I q_I   li  me
    exfalso
    omega
  | succ n ih =>
    intro v5 I L w_I q_I   li  me
    unfold f_X12_divide_L136
    have rv5 := i_rng v5
    have rv1 := i_rng v1
    have rv2 := i_rng v2
    refine ⟨fun c25 => ?_, fun c25 => ?_⟩
    · skip
      first | (have t26 : v5.toInt ≤ (0) := (i_le rfl (show (0 : Int32).toInt = 0 from rfl)).mp c25) | (have t26 : v5.toInt ≤ (0 : Int32).toInt := (i_le rfl rfl).mp c25) | skip
      exact hQ  I L w_I q_I 
    · skip
      first | (have t27 : ¬ (v5.toInt ≤ (0)) := (not_congr (i_le rfl (show (0 : Int32).toInt = 0 from rfl))).mp c25) | (have t27 : ¬ (v5.toInt ≤ (0 : Int32).toInt) := (not_congr (i_le rfl rfl)).mp c25) | skip
      have t28 : (0 : Int32).toInt = 0 := rfl
      have t29 : (1 : Int32).toInt = 1 := rfl
      exact ⟨(8 - (1 : Int32).toInt).toNat + 1, l_X12_divide_L147 w0 v0 v1 v2 kv0 p0 v5  hQ ih  _ (0 : Int32) (1 : Int32) I L w_I q_I   (by omega) (by omega) (by omega)⟩
set_option maxHeartbeats 4000000 in
set_option maxRecDepth 100000 in
theorem l_X12_divide_L40 {Z : jZ} {I0 : jI} {Q : jI → jL → Prop} (w0 : WD Z I0) (v0 : Nat) (v1 : Int32) (v2 : Int32) (kv0 : jk Z v0 12) (p0 : (0 ≤ v2.toInt ∧ v2.toInt ≤ 23) ∨ 1 ≤ (I0 v0 0).toInt) (v3 : Int64) (v5 : Int32) (v6 : Int32) (hQ : ∀  (I' : jI) (L' : jL), WD Z I' → FR Ws_X12_divide Z I0 Z I' → Q I' L') {K27 : Nat → Int32 → Int32 → Int64 → Int32 → Int32 → jI → jL → Prop} {N27 : Int} (hK27 : ∀ (v5 : Int32) (v6 : Int32) (I : jI) (L : jL), WD Z I → FR Ws_X12_divide Z I0 Z I →   ((0 ≤ v6.toInt ∧ v6.toInt ≤ 8) ∧ ¬ v3 = 0) → 8 - v6.toInt < N27 → K27 v0 v1 v2 v3 v5 v6 I L) : ∀ (n : Nat) (v7 : Int64) (v9 : Int32) (I : jI) (L : jL), WD Z I → FR Ws_X12_divide Z I0 Z I →   ((0 ≤ v6.toInt ∧ v6.toInt ≤ 7 ∧ 0 ≤ v9.toInt ∧ v9.toInt ≤ 24) ∧ ¬ v3 = 0) → 8 - v6.toInt ≤ N27 → 24 - v9.toInt < (n : Int) → f_X12_divide_L40 K27 Z Q n v0 v1 v2 v3 v5 v6 v7 v9 I L := by
  intro n
  induction n with
  | zero =>
    intro v7 v9 I L w_I q_I   li hm27 me
    exfalso
    omega
  | succ n ih =>
    intro v7 v9 I L w_I q_I   li hm27 me
    unfold f_X12_divide_L40
    have rv9 := i_rng v9
    have rv5 := i_rng v5
    have rv6 := i_rng v6
    have rv1 := i_rng v1
    have rv2 := i_rng v2
    obtain ⟨li0, li1⟩ := li
    have t31 : 0 ≤ (I v0 0).toInt ∧ (I v0 0).toInt ≤ 24 := w_I.fld 12 0 kv0 (by decide)
    refine ⟨fun c32 => ?_, fun c32 => ?_⟩
    · skip
      first | (have t33 : (I v0 0).toInt ≤ v9.toInt := (i_le rfl rfl).mp c32) | (have t33 : (I v0 0).toInt ≤ v9.toInt := (i_le rfl rfl).mp c32) | skip
      intro b34 eb34
      obtain ⟨x35, ex35, kb34, lb34⟩ := sh_f w_I.1 kv0 (j := 35) (k := 14) (m := 8) rfl
      cases eb34.symm.trans ex35
      refine ⟨by first | assumption | (intro h9; first | exact c20 (by rw [h9]; rfl) | omega), ?_⟩
      have o36 : vp_in v6 8 := vi_of rfl (by omega) (by omega)
      refine ⟨o36, ?_⟩
      intro I37 eI37
      have w_I37 : WD Z I37 := by rw [eI37]; exact WD_putA w_I 12 35 kv0 eb34 kb34 rfl rfl (by decide) trivial
      have f_I37 : FR [(12, 35)] Z I Z I37 := by rw [eI37]; exact FR_upA w_I.2.1 kv0 eb34 kb34 rfl rfl List.mem_cons_self
      have q_I37 : FR Ws_X12_divide Z I0 Z I37 := q_I.trans w0.1 w0.2.1 (f_I37.mono (by decide))
      have u38 : (I37 v0 0).toInt = (I v0 0).toInt := by rw [f_I37.2.2.1 v0 12 0 kv0 (by decide) (by decide)]
      intro b39 eb39
      obtain ⟨x40, ex40, kb39, lb39⟩ := sh_f w_I37.1 kv0 (j := 36) (k := 15) (m := 8) rfl
      cases eb39.symm.trans ex40
      refine ⟨by first | assumption | (intro h9; first | exact c20 (by rw [h9]; rfl) | omega), ?_⟩
      have o41 : vp_in v6 8 := vi_of rfl (by omega) (by omega)
      refine ⟨o41, ?_⟩
      intro L42 eL42
      intro b43 eb43
      obtain rfl : b34 = b43 := Option.some.inj (eb34.symm.trans eb43)
      have o44 : vp_in v6 8 := vi_of rfl (by omega) (by omega)
      refine ⟨o44, ?_⟩
      intro x45 ex45
      have rx45 := i_rng x45
      first | (have tx45 : x45.toInt = (v5.toInt - (I37 b34 v6.toNatClampNeg).toInt) := by (rw [ex45]; exact (i_sub rfl rfl (by omega) (by omega)))) | (have tx45 : x45.toInt = (v5 - (I37 b34 v6.toNatClampNeg)).toInt := by rw [ex45])
      intro x46 ex46
      have rx46 := i_rng x46
      first | (have tx46 : x46.toInt = v6.toInt + (1) := by (rw [ex46]; exact (i_add rfl (show (1 : Int32).toInt = 1 from rfl) (by omega) (by omega)))) | skip
      exact hK27 x45 x46 I37 L42 w_I37 q_I37   (by refine ⟨?_, ?_⟩; (omega); (first | assumption | decide | exact l720 (by omega) (by omega)))  (by omega)
    · skip
      first | (have t47 : ¬ ((I v0 0).toInt ≤ v9.toInt) := (not_congr (i_le rfl rfl)).mp c32) | (have t47 : ¬ ((I v0 0).toInt ≤ v9.toInt) := (not_congr (i_le rfl rfl)).mp c32) | skip
      refine ⟨fun c48 => ?_, fun c48 => ?_⟩
      · skip
        first | (have t49 : v2.toInt = (-1) := (i_eq rfl (show (-1 : Int32).toInt = -1 from rfl)).mp c48) | (have t49 : v2.toInt = (-1 : Int32).toInt := (i_eq rfl rfl).mp c48) | skip
        unfold f_X12_divide_b62
        intro b50 eb50
        obtain ⟨x51, ex51, kb50, lb50⟩ := sh_f w_I.1 kv0 (j := 5) (k := 14) (m := 192) rfl
        cases eb50.symm.trans ex51
        have o52 : vp_in (((8 : Int32) * v9) + v6) 192 := vi_of (i_add (i_mul (show (8 : Int32).toInt = 8 from rfl) rfl (by omega) (by omega)) rfl (by omega) (by omega)) (by omega) (by omega)
        refine ⟨o52, ?_⟩
        unfold f_X12_divide_b80
        intro x53 ex53
        intro x54 ex54
        have rx54 := i_rng x54
        first | (have tx54 : x54.toInt = v9.toInt + (1) := by (rw [ex54]; exact (i_add rfl (show (1 : Int32).toInt = 1 from rfl) (by omega) (by omega)))) | skip
        exact ih x53 x54 I L w_I q_I   (by refine ⟨?_, ?_⟩; (omega); (first | assumption | decide | exact l720 (by omega) (by omega))) (by omega) (by omega)
      · skip
        first | (have t55 : ¬ (v2.toInt = (-1)) := (not_congr (i_eq rfl (show (-1 : Int32).toInt = -1 from rfl))).mp c48) | (have t55 : ¬ (v2.toInt = (-1 : Int32).toInt) := (not_congr (i_eq rfl rfl)).mp c48) | skip
        refine ⟨fun c56 => ?_, fun c56 => ?_⟩
        · skip
          first | (have t57 : ¬ (v2.toInt = v9.toInt) := (not_congr (i_eq rfl rfl)).mp c56) | (have t57 : ¬ (v2.toInt = v9.toInt) := (not_congr (i_eq rfl rfl)).mp c56) | skip
          unfold f_X12_divide_b80
          intro x58 ex58
          intro x59 ex59
          have rx59 := i_rng x59
          first | (have tx59 : x59.toInt = v9.toInt + (1) := by (rw [ex59]; exact (i_add rfl (show (1 : Int32).toInt = 1 from rfl) (by omega) (by omega)))) | skip
          exact ih x58 x59 I L w_I q_I   (by refine ⟨?_, ?_⟩; (omega); (first | assumption | decide | exact l720 (by omega) (by omega))) (by omega) (by omega)
        · skip
          first | (have t60 : v2.toInt = v9.toInt := (i_eq rfl rfl).mp c56) | (have t60 : v2.toInt = v9.toInt := (i_eq rfl rfl).mp c56) | skip
          unfold f_X12_divide_b62
          intro b61 eb61
          obtain ⟨x62, ex62, kb61, lb61⟩ := sh_f w_I.1 kv0 (j := 5) (k := 14) (m := 192) rfl
          cases eb61.symm.trans ex62
          have o63 : vp_in (((8 : Int32) * v9) + v6) 192 := vi_of (i_add (i_mul (show (8 : Int32).toInt = 8 from rfl) rfl (by omega) (by omega)) rfl (by omega) (by omega)) (by omega) (by omega)
          refine ⟨o63, ?_⟩
          unfold f_X12_divide_b80
          intro x64 ex64
          intro x65 ex65
          have rx65 := i_rng x65
          first | (have tx65 : x65.toInt = v9.toInt + (1) := by (rw [ex65]; exact (i_add rfl (show (1 : Int32).toInt = 1 from rfl) (by omega) (by omega)))) | skip
          exact ih x64 x65 I L w_I q_I   (by refine ⟨?_, ?_⟩; (omega); (first | assumption | decide | exact l720 (by omega) (by omega))) (by omega) (by omega)
set_option maxHeartbeats 4000000 in
set_option maxRecDepth 100000 in
theorem l_X12_divide_L27 {Z : jZ} {I0 : jI} {Q : jI → jL → Prop} (w0 : WD Z I0) (v0 : Nat) (v1 : Int32) (v2 : Int32) (kv0 : jk Z v0 12) (p0 : (0 ≤ v2.toInt ∧ v2.toInt ≤ 23) ∨ 1 ≤ (I0 v0 0).toInt) (v3 : Int64) (hQ : ∀  (I' : jI) (L' : jL), WD Z I' → FR Ws_X12_divide Z I0 Z I' → Q I' L') : ∀ (n : Nat) (v5 : Int32) (v6 : Int32) (I : jI) (L : jL), WD Z I → FR Ws_X12_divide Z I0 Z I →   ((0 ≤ v6.toInt ∧ v6.toInt ≤ 8) ∧ ¬ v3 = 0) → 8 - v6.toInt < (n : Int) → f_X12_divide_L27  Z Q n v0 v1 v2 v3 v5 v6 I L := by
  intro n
  induction n with
  | zero =>
    intro v5 v6 I L w_I q_I   li  me
    exfalso
    omega
  | succ n ih =>
    intro v5 v6 I L w_I q_I   li  me
    unfold f_X12_divide_L27
    have rv5 := i_rng v5
    have rv6 := i_rng v6
    have rv1 := i_rng v1
    have rv2 := i_rng v2
    obtain ⟨li0, li1⟩ := li
    refine ⟨fun c66 => ?_, fun c66 => ?_⟩
    · skip
      first | (have t67 : (8) ≤ v6.toInt := (i_le (show (8 : Int32).toInt = 8 from rfl) rfl).mp c66) | (have t67 : (8 : Int32).toInt ≤ v6.toInt := (i_le rfl rfl).mp c66) | skip
      exact ⟨(max 0 v5.toInt).toNat + 1, l_X12_divide_L136 w0 v0 v1 v2 kv0 p0   hQ   _ v5 I L w_I q_I   (by omega)  (by omega)⟩
    · skip
      first | (have t68 : ¬ ((8) ≤ v6.toInt) := (not_congr (i_le (show (8 : Int32).toInt = 8 from rfl) rfl)).mp c66) | (have t68 : ¬ ((8 : Int32).toInt ≤ v6.toInt) := (not_congr (i_le rfl rfl)).mp c66) | skip
      have t69 : (0 : Int32).toInt = 0 := rfl
      exact ⟨(24 - (0 : Int32).toInt).toNat + 1, l_X12_divide_L40 w0 v0 v1 v2 kv0 p0 v3 v5 v6  hQ ih  _ (0 : Int64) (0 : Int32) I L w_I q_I   (by refine ⟨?_, ?_⟩; (omega); (first | assumption | decide | exact l720 (by omega) (by omega))) (by omega) (by omega)⟩
set_option maxHeartbeats 4000000 in
set_option maxRecDepth 100000 in
theorem s_X12_divide {Z : jZ} {I : jI} {L : jL} (w_I : WD Z I) (v0 : Nat) (v1 : Int32) (v2 : Int32) (kv0 : jk Z v0 12) (p0 : (0 ≤ v2.toInt ∧ v2.toInt ≤ 23) ∨ 1 ≤ (I v0 0).toInt) {Q : jI → jL → Prop} (hQ : ∀  (I' : jI) (L' : jL), WD Z I' → FR Ws_X12_divide Z I Z I' → Q I' L') : f_X12_divide v0 v1 v2 Z I L Q := by
  unfold f_X12_divide
  have q_I : FR Ws_X12_divide Z I Z I := FR.rf
  have rv1 := i_rng v1
  have rv2 := i_rng v2
  refine ⟨fun c70 => ?_, fun c70 => ?_⟩
  · skip
    first | (have t71 : ¬ (v2.toInt = (-1)) := (not_congr (i_eq rfl (show (-1 : Int32).toInt = -1 from rfl))).mp c70) | (have t71 : ¬ (v2.toInt = (-1 : Int32).toInt) := (not_congr (i_eq rfl rfl)).mp c70) | skip
    unfold f_X12_divide_b20
    have t72 : (0 : Int32).toInt = 0 := rfl
    exact ⟨(8 - (0 : Int32).toInt).toNat + 1, l_X12_divide_L27 w_I v0 v1 v2 kv0 p0 (720 : Int64)  hQ   _ v1 (0 : Int32) I L w_I q_I   (by refine ⟨?_, ?_⟩; (omega); (first | assumption | decide | exact l720 (by omega) (by omega)))  (by omega)⟩
  · skip
    first | (have t73 : v2.toInt = (-1) := (i_eq rfl (show (-1 : Int32).toInt = -1 from rfl)).mp c70) | (have t73 : v2.toInt = (-1 : Int32).toInt := (i_eq rfl rfl).mp c70) | skip
    have t75 : 0 ≤ (I v0 0).toInt ∧ (I v0 0).toInt ≤ 24 := w_I.fld 12 0 kv0 (by decide)
    unfold f_X12_divide_b20
    have t76 : (0 : Int32).toInt = 0 := rfl
    exact ⟨(8 - (0 : Int32).toInt).toNat + 1, l_X12_divide_L27 w_I v0 v1 v2 kv0 p0 ((720 : Int64) * ((I v0 0).toInt64))  hQ   _ v1 (0 : Int32) I L w_I q_I   (by refine ⟨?_, ?_⟩; (omega); (first | assumption | decide | exact l720 (by omega) (by omega)))  (by omega)⟩
def Ws_X12_earn : List (Nat × Nat) := [(12, 17), (12, 35)]
set_option maxHeartbeats 4000000 in
set_option maxRecDepth 100000 in
theorem l_X12_earn_L9 {Z : jZ} {I0 : jI} {Q : jI → jL → Prop} (w0 : WD Z I0) (v0 : Nat) (v1 : Int32) (v2 : Int32) (v3 : Int32) (kv0 : jk Z v0 12) (p0 : 0 ≤ v1.toInt ∧ v1.toInt ≤ 23) (hQ : ∀  (I' : jI) (L' : jL), WD Z I' → FR Ws_X12_earn Z I0 Z I' → Q I' L') : ∀ (n : Nat) (v4 : Int32) (I : jI) (L : jL), WD Z I → FR Ws_X12_earn Z I0 Z I →   (0 ≤ v4.toInt ∧ v4.toInt ≤ 8) → 8 - v4.toInt < (n : Int) → f_X12_earn_L9  Z Q n v0 v3 v4 I L := by
  intro n
  induction n with
  | zero =>
    intro v4 I L w_I q_I   li  me
    exfalso
    omega
  | succ n ih =>
    intro v4 I L w_I q_I   li  me
    unfold f_X12_earn_L9
    have rv4 := i_rng v4
    have rv1 := i_rng v1
    have rv2 := i_rng v2
    have rv3 := i_rng v3
    refine ⟨fun c1 => ?_, fun c1 => ?_⟩
    · skip
      first | (have t2 : (8) ≤ v4.toInt := (i_le (show (8 : Int32).toInt = 8 from rfl) rfl).mp c1) | (have t2 : (8 : Int32).toInt ≤ v4.toInt := (i_le rfl rfl).mp c1) | skip
      exact hQ  I L w_I q_I 
    · skip
      first | (have t3 : ¬ ((8) ≤ v4.toInt) := (not_congr (i_le (show (8 : Int32).toInt = 8 from rfl) rfl)).mp c1) | (have t3 : ¬ ((8 : Int32).toInt ≤ v4.toInt) := (not_congr (i_le rfl rfl)).mp c1) | skip
      intro b4 eb4
      obtain ⟨x5, ex5, kb4, lb4⟩ := sh_f w_I.1 kv0 (j := 17) (k := 14) (m := 8) rfl
      cases eb4.symm.trans ex5
      have o6 : vp_in v4 8 := vi_of rfl (by omega) (by omega)
      refine ⟨o6, ?_⟩
      intro b7 eb7
      obtain ⟨x8, ex8, kb7, lb7⟩ := sh_f w_I.1 kv0 (j := 35) (k := 14) (m := 8) rfl
      cases eb7.symm.trans ex8
      have o9 : vp_in v4 8 := vi_of rfl (by omega) (by omega)
      refine ⟨o9, ?_⟩
      have o10 : vp_in v4 8 := vi_of rfl (by omega) (by omega)
      refine ⟨o10, ?_⟩
      intro I11 eI11
      try (have t12 : ((I b4 v4.toNatClampNeg) + (v3 * (I b7 v4.toNatClampNeg))).toInt = ((I b4 v4.toNatClampNeg).toInt + (v3 * (I b7 v4.toNatClampNeg)).toInt) := (i_add rfl rfl (by omega) (by omega)))
      have w_I11 : WD Z I11 := by rw [eI11]; exact WD_putA w_I 12 17 kv0 eb4 kb4 rfl rfl (by decide) trivial
      have f_I11 : FR [(12, 17)] Z I Z I11 := by rw [eI11]; exact FR_upA w_I.2.1 kv0 eb4 kb4 rfl rfl List.mem_cons_self
      have q_I11 : FR Ws_X12_earn Z I0 Z I11 := q_I.trans w0.1 w0.2.1 (f_I11.mono (by decide))
      intro x13 ex13
      have rx13 := i_rng x13
      first | (have tx13 : x13.toInt = v4.toInt + (1) := by (rw [ex13]; exact (i_add rfl (show (1 : Int32).toInt = 1 from rfl) (by omega) (by omega)))) | skip
      exact ih x13 I11 L w_I11 q_I11   (by omega)  (by omega)
set_option maxHeartbeats 4000000 in
set_option maxRecDepth 100000 in
theorem s_X12_earn {Z : jZ} {I : jI} {L : jL} (w_I : WD Z I) (v0 : Nat) (v1 : Int32) (v2 : Int32) (v3 : Int32) (kv0 : jk Z v0 12) (p0 : 0 ≤ v1.toInt ∧ v1.toInt ≤ 23) {Q : jI → jL → Prop} (hQ : ∀  (I' : jI) (L' : jL), WD Z I' → FR Ws_X12_earn Z I Z I' → Q I' L') : f_X12_earn v0 v1 v2 v3 Z I L Q := by
  unfold f_X12_earn
  have q_I : FR Ws_X12_earn Z I Z I := FR.rf
  have rv1 := i_rng v1
  have rv2 := i_rng v2
  have rv3 := i_rng v3
  refine s_X12_divide w_I v0 v2 v1 kv0  (by omega) (fun  I14 L15 w_I14 f_I14  => ?_)
  have q_I14 : FR Ws_X12_earn Z I Z I14 := q_I.trans w_I.1 w_I.2.1 (f_I14.mono (by decide))
  have t16 : (0 : Int32).toInt = 0 := rfl
  exact ⟨(8 - (0 : Int32).toInt).toNat + 1, l_X12_earn_L9 w_I v0 v1 v2 v3 kv0 p0   hQ   _ (0 : Int32) I14 L15 w_I14 q_I14   (by omega)  (by omega)⟩
def Ws_X12_returns : List (Nat × Nat) := [(12, 14), (12, 15), (12, 22)]
set_option maxHeartbeats 4000000 in
set_option maxRecDepth 100000 in
theorem s_X12_returns {Z : jZ} {I : jI} {L : jL} (w_I : WD Z I) (v0 : Nat) (v1 : Int32) (kv0 : jk Z v0 12) {Q : Int32 → jI → jL → Prop} (hQ : ∀ (r : Int32) (I' : jI) (L' : jL), WD Z I' → FR Ws_X12_returns Z I Z I' → Q r I' L') : f_X12_returns v0 v1 Z I L Q := by
  unfold f_X12_returns
  have q_I : FR Ws_X12_returns Z I Z I := FR.rf
  have rv1 := i_rng v1
  intro I1 eI1
  have t2 : (0 : Int32).toInt = 0 := rfl
  have w_I1 : WD Z I1 := by rw [eI1]; exact WD_putF w_I 12 22 kv0 (by decide) (by decide) trivial
  have f_I1 : FR [(12, 22)] Z I Z I1 := by rw [eI1]; exact FR_putF kv0 (by decide) List.mem_cons_self
  have q_I1 : FR Ws_X12_returns Z I Z I1 := q_I.trans w_I.1 w_I.2.1 (f_I1.mono (by decide))
  first | (have u3 : (I1 v0 22).toInt = (0) := by (rw [eI1, show jpI I v0 22 (0 : Int32) v0 22 = (0 : Int32) from jpI_at] <;> exact (show (0 : Int32).toInt = 0 from rfl))) | skip
  refine s_X12_isOne w_I1 v0 v1 kv0   (fun r4 p5 => ?_)
  have rr4 := i_rng r4
  refine ⟨fun c6 => ?_, fun c6 => ?_⟩
  · skip
    first | (have t7 : ¬ (r4.toInt = (0)) := (not_congr (i_eq rfl (show (0 : Int32).toInt = 0 from rfl))).mp c6) | (have t7 : ¬ (r4.toInt = (0 : Int32).toInt) := (not_congr (i_eq rfl rfl)).mp c6) | skip
    intro b8 eb8
    obtain ⟨x9, ex9, kb8, lb8⟩ := sh_f w_I1.1 kv0 (j := 14) (k := 14) (m := 6) rfl
    cases eb8.symm.trans ex9
    have o10 : vp_in v1 6 := vi_of rfl (by omega) (by omega)
    refine ⟨o10, ?_⟩
    have t11 : -1 ≤ (I1 b8 v1.toNatClampNeg).toInt ∧ (I1 b8 v1.toNatClampNeg).toInt ≤ 23 := w_I1.arr 12 14 kv0 eb8 kb8 rfl rfl _
    intro x12 ex12
    have rx12 := i_rng x12
    first | (have tx12 : x12.toInt = (I1 b8 v1.toNatClampNeg).toInt := by (rw [ex12]; exact rfl)) | (have tx12 : x12.toInt = (I1 b8 v1.toNatClampNeg).toInt := by rw [ex12])
    intro b13 eb13
    obtain rfl : b8 = b13 := Option.some.inj (eb8.symm.trans eb13)
    have o14 : vp_in v1 6 := vi_of rfl (by omega) (by omega)
    refine ⟨o14, ?_⟩
    intro I15 eI15
    have t16 : (-1 : Int32).toInt = -1 := rfl
    have w_I15 : WD Z I15 := by rw [eI15]; exact WD_putA w_I1 12 14 kv0 eb8 kb8 rfl rfl (by decide) (by constructor <;> omega)
    have f_I15 : FR [(12, 14)] Z I1 Z I15 := by rw [eI15]; exact FR_upA w_I1.2.1 kv0 eb8 kb8 rfl rfl List.mem_cons_self
    have q_I15 : FR Ws_X12_returns Z I Z I15 := q_I1.trans w_I.1 w_I.2.1 (f_I15.mono (by decide))
    have u17 : (I15 v0 22).toInt = (I1 v0 22).toInt := by rw [f_I15.2.2.1 v0 12 22 kv0 (by decide) (by decide)]
    intro b18 eb18
    obtain ⟨x19, ex19, kb18, lb18⟩ := sh_f w_I15.1 kv0 (j := 15) (k := 14) (m := 6) rfl
    cases eb18.symm.trans ex19
    intro b20 eb20
    obtain ⟨x21, ex21, kb20, lb20⟩ := sh_f w_I15.1 kv0 (j := 9) (k := 14) (m := 6) rfl
    cases eb20.symm.trans ex21
    have o22 : vp_in v1 6 := vi_of rfl (by omega) (by omega)
    refine ⟨o22, ?_⟩
    have t23 : 0 ≤ (I15 b20 v1.toNatClampNeg).toInt ∧ (I15 b20 v1.toNatClampNeg).toInt ≤ 120 := w_I15.arr 12 9 kv0 eb20 kb20 rfl rfl _
    have o24 : vp_in v1 6 := vi_of rfl (by omega) (by omega)
    refine ⟨o24, ?_⟩
    intro I25 eI25
    have w_I25 : WD Z I25 := by rw [eI25]; exact WD_putA w_I15 12 15 kv0 eb18 kb18 rfl rfl (by decide) trivial
    have f_I25 : FR [(12, 15)] Z I15 Z I25 := by rw [eI25]; exact FR_upA w_I15.2.1 kv0 eb18 kb18 rfl rfl List.mem_cons_self
    have q_I25 : FR Ws_X12_returns Z I Z I25 := q_I15.trans w_I.1 w_I.2.1 (f_I25.mono (by decide))
    have u26 : (I25 v0 22).toInt = (I15 v0 22).toInt := by rw [f_I25.2.2.1 v0 12 22 kv0 (by decide) (by decide)]
    exact hQ x12 I25 L w_I25 q_I25 
  · skip
    first | (have t27 : r4.toInt = (0) := (i_eq rfl (show (0 : Int32).toInt = 0 from rfl)).mp c6) | (have t27 : r4.toInt = (0 : Int32).toInt := (i_eq rfl rfl).mp c6) | skip
    have t28 : (-1 : Int32).toInt = -1 := rfl
    exact hQ (-1 : Int32) I1 L w_I1 q_I1 
def Ws_X12_earned : List (Nat × Nat) := [(12, 21), (12, 22)]
set_option maxHeartbeats 4000000 in
set_option maxRecDepth 100000 in
theorem l_X12_earned_L18 {Z : jZ} {I0 : jI} {Q : Int32 → jI → jL → Prop} (w0 : WD Z I0) (v0 : Nat) (v1 : Int32) (kv0 : jk Z v0 12) (hQ : ∀ (r : Int32) (I' : jI) (L' : jL), WD Z I' → FR Ws_X12_earned Z I0 Z I' → Q r I' L') : ∀ (n : Nat) (v2 : Int32) (v3 : Int32) (I : jI) (L : jL), WD Z I → FR Ws_X12_earned Z I0 Z I →   (0 ≤ v3.toInt ∧ v3.toInt ≤ 24 ∧ 0 ≤ v1.toInt ∧ v1.toInt ≤ 7) → 24 - v3.toInt < (n : Int) → f_X12_earned_L18  Z Q n v0 v1 v2 v3 I L := by
  intro n
  induction n with
  | zero =>
    intro v2 v3 I L w_I q_I   li  me
    exfalso
    omega
  | succ n ih =>
    intro v2 v3 I L w_I q_I   li  me
    unfold f_X12_earned_L18
    have rv2 := i_rng v2
    have rv3 := i_rng v3
    have rv1 := i_rng v1
    have t2 : 0 ≤ (I v0 0).toInt ∧ (I v0 0).toInt ≤ 24 := w_I.fld 12 0 kv0 (by decide)
    refine ⟨fun c3 => ?_, fun c3 => ?_⟩
    · skip
      first | (have t4 : (I v0 0).toInt ≤ v3.toInt := (i_le rfl rfl).mp c3) | (have t4 : (I v0 0).toInt ≤ v3.toInt := (i_le rfl rfl).mp c3) | skip
      intro I5 eI5
      have t6 : (0 : Int32).toInt = 0 := rfl
      have w_I5 : WD Z I5 := by rw [eI5]; exact WD_putF w_I 12 21 kv0 (by decide) (by decide) (by constructor <;> omega)
      have f_I5 : FR [(12, 21)] Z I Z I5 := by rw [eI5]; exact FR_putF kv0 (by decide) List.mem_cons_self
      have q_I5 : FR Ws_X12_earned Z I0 Z I5 := q_I.trans w0.1 w0.2.1 (f_I5.mono (by decide))
      have u7 : (I5 v0 0).toInt = (I v0 0).toInt := by rw [f_I5.2.2.1 v0 12 0 kv0 (by decide) (by decide)]
      first | (have u8 : (I5 v0 21).toInt = (0) := by (rw [eI5, show jpI I v0 21 (0 : Int32) v0 21 = (0 : Int32) from jpI_at] <;> exact (show (0 : Int32).toInt = 0 from rfl))) | skip
      refine s_X12_tell w_I5 v0 (v2.toInt64) kv0  (by omega) (fun  I10 L11 w_I10 f_I10 p9 => ?_)
      have q_I10 : FR Ws_X12_earned Z I0 Z I10 := q_I5.trans w0.1 w0.2.1 (f_I10.mono (by decide))
      have u12 : (I10 v0 0).toInt = (I5 v0 0).toInt := by rw [f_I10.2.2.1 v0 12 0 kv0 (by decide) (by decide)]
      intro b13 eb13
      obtain ⟨x14, ex14, kb13, lb13⟩ := sh_f w_I10.1 kv0 (j := 17) (k := 14) (m := 8) rfl
      cases eb13.symm.trans ex14
      have o15 : vp_in v1 8 := vi_of rfl (by omega) (by omega)
      refine ⟨o15, ?_⟩
      exact hQ (I10 b13 v1.toNatClampNeg) I10 L11 w_I10 q_I10 
    · skip
      first | (have t16 : ¬ ((I v0 0).toInt ≤ v3.toInt) := (not_congr (i_le rfl rfl)).mp c3) | (have t16 : ¬ ((I v0 0).toInt ≤ v3.toInt) := (not_congr (i_le rfl rfl)).mp c3) | skip
      intro b17 eb17
      obtain ⟨x18, ex18, kb17, lb17⟩ := sh_f w_I.1 kv0 (j := 5) (k := 14) (m := 192) rfl
      cases eb17.symm.trans ex18
      have o19 : vp_in (((8 : Int32) * v3) + v1) 192 := vi_of (i_add (i_mul (show (8 : Int32).toInt = 8 from rfl) rfl (by omega) (by omega)) rfl (by omega) (by omega)) (by omega) (by omega)
      refine ⟨o19, ?_⟩
      intro x20 ex20
      have rx20 := i_rng x20
      first | (have tx20 : x20.toInt = (v2.toInt + (I b17 (((8 : Int32) * v3) + v1).toNatClampNeg).toInt) := by (rw [ex20]; exact (i_add rfl rfl (by omega) (by omega)))) | (have tx20 : x20.toInt = (v2 + (I b17 (((8 : Int32) * v3) + v1).toNatClampNeg)).toInt := by rw [ex20])
      intro x21 ex21
      have rx21 := i_rng x21
      first | (have tx21 : x21.toInt = v3.toInt + (1) := by (rw [ex21]; exact (i_add rfl (show (1 : Int32).toInt = 1 from rfl) (by omega) (by omega)))) | skip
      exact ih x20 x21 I L w_I q_I   (by omega)  (by omega)
set_option maxHeartbeats 4000000 in
set_option maxRecDepth 100000 in
theorem s_X12_earned {Z : jZ} {I : jI} {L : jL} (w_I : WD Z I) (v0 : Nat) (v1 : Int32) (kv0 : jk Z v0 12) {Q : Int32 → jI → jL → Prop} (hQ : ∀ (r : Int32) (I' : jI) (L' : jL), WD Z I' → FR Ws_X12_earned Z I Z I' → Q r I' L') : f_X12_earned v0 v1 Z I L Q := by
  unfold f_X12_earned
  have q_I : FR Ws_X12_earned Z I Z I := FR.rf
  have rv1 := i_rng v1
  intro I22 eI22
  have t23 : (0 : Int32).toInt = 0 := rfl
  have w_I22 : WD Z I22 := by rw [eI22]; exact WD_putF w_I 12 22 kv0 (by decide) (by decide) trivial
  have f_I22 : FR [(12, 22)] Z I Z I22 := by rw [eI22]; exact FR_putF kv0 (by decide) List.mem_cons_self
  have q_I22 : FR Ws_X12_earned Z I Z I22 := q_I.trans w_I.1 w_I.2.1 (f_I22.mono (by decide))
  first | (have u24 : (I22 v0 22).toInt = (0) := by (rw [eI22, show jpI I v0 22 (0 : Int32) v0 22 = (0 : Int32) from jpI_at] <;> exact (show (0 : Int32).toInt = 0 from rfl))) | skip
  refine s_X12_isFamily w_I22 v1    (fun r25 p26 => ?_)
  have rr25 := i_rng r25
  refine ⟨fun c27 => ?_, fun c27 => ?_⟩
  · skip
    first | (have t28 : ¬ (r25.toInt = (0)) := (not_congr (i_eq rfl (show (0 : Int32).toInt = 0 from rfl))).mp c27) | (have t28 : ¬ (r25.toInt = (0 : Int32).toInt) := (not_congr (i_eq rfl rfl)).mp c27) | skip
    have t29 : (0 : Int32).toInt = 0 := rfl
    have t30 : (0 : Int32).toInt = 0 := rfl
    exact ⟨(24 - (0 : Int32).toInt).toNat + 1, l_X12_earned_L18 w_I v0 v1 kv0   hQ   _ (0 : Int32) (0 : Int32) I22 L w_I22 q_I22   (by omega)  (by omega)⟩
  · skip
    first | (have t31 : r25.toInt = (0) := (i_eq rfl (show (0 : Int32).toInt = 0 from rfl)).mp c27) | (have t31 : r25.toInt = (0 : Int32).toInt := (i_eq rfl rfl).mp c27) | skip
    have t32 : (-1 : Int32).toInt = -1 := rfl
    exact hQ (-1 : Int32) I22 L w_I22 q_I22 
set_option maxHeartbeats 4000000 in
set_option maxRecDepth 100000 in
theorem s_X12_isCost {Z : jZ} {I : jI} {L : jL} (w_I : WD Z I) (v0 : Int32) {Q : Int32 → jI → jL → Prop} (hQ : ∀ (r : Int32), ((r.toInt = 1 ∧ (0 ≤ v0.toInt ∧ v0.toInt ≤ 999)) ∨ (r.toInt = 0 ∧ ¬ (0 ≤ v0.toInt ∧ v0.toInt ≤ 999))) → Q r I L) : f_X12_isCost v0 Z I L Q := by
  unfold f_X12_isCost
  have rv0 := i_rng v0
  have t1 : (0 : Int32).toInt = 0 := rfl
  have t2 : (999 : Int32).toInt = 999 := rfl
  refine s_X12_in w_I v0 (0 : Int32) (999 : Int32)    (fun r3 p4 => ?_)
  have rr3 := i_rng r3
  exact hQ r3 (by omega)
def Ws_X12_tellMore : List (Nat × Nat) := [(12, 21)]
set_option maxHeartbeats 4000000 in
set_option maxRecDepth 100000 in
theorem s_X12_tellMore {Z : jZ} {I : jI} {L : jL} (w_I : WD Z I) (v0 : Nat) (v1 : Int32) (v2 : Int32) (v3 : Int32) (kv0 : jk Z v0 12) {Q : Int32 → jI → jL → Prop} (hQ : ∀ (r : Int32) (I' : jI) (L' : jL), WD Z I' → FR Ws_X12_tellMore Z I Z I' → Q r I' L') : f_X12_tellMore v0 v1 v2 v3 Z I L Q := by
  unfold f_X12_tellMore
  have q_I : FR Ws_X12_tellMore Z I Z I := FR.rf
  have rv1 := i_rng v1
  have rv2 := i_rng v2
  have rv3 := i_rng v3
  intro I1 eI1
  have t2 : (0 : Int32).toInt = 0 := rfl
  have w_I1 : WD Z I1 := by rw [eI1]; exact WD_putF w_I 12 21 kv0 (by decide) (by decide) (by constructor <;> omega)
  have f_I1 : FR [(12, 21)] Z I Z I1 := by rw [eI1]; exact FR_putF kv0 (by decide) List.mem_cons_self
  have q_I1 : FR Ws_X12_tellMore Z I Z I1 := q_I.trans w_I.1 w_I.2.1 (f_I1.mono (by decide))
  first | (have u3 : (I1 v0 21).toInt = (0) := by (rw [eI1, show jpI I v0 21 (0 : Int32) v0 21 = (0 : Int32) from jpI_at] <;> exact (show (0 : Int32).toInt = 0 from rfl))) | skip
  refine s_X12_tell w_I1 v0 (((I1 v0 48) - v1).toInt64) kv0  (by omega) (fun  I5 L6 w_I5 f_I5 p4 => ?_)
  have q_I5 : FR Ws_X12_tellMore Z I Z I5 := q_I1.trans w_I.1 w_I.2.1 (f_I5.mono (by decide))
  have u7 : (I5 v0 48).toInt = (I1 v0 48).toInt := by rw [f_I5.2.2.1 v0 12 48 kv0 (by decide) (by decide)]
  refine s_X12_tell w_I5 v0 (((I5 v0 49) - v2).toInt64) kv0  (by omega) (fun  I9 L10 w_I9 f_I9 p8 => ?_)
  have q_I9 : FR Ws_X12_tellMore Z I Z I9 := q_I5.trans w_I.1 w_I.2.1 (f_I9.mono (by decide))
  have u11 : (I9 v0 48).toInt = (I5 v0 48).toInt := by rw [f_I9.2.2.1 v0 12 48 kv0 (by decide) (by decide)]
  have u12 : (I9 v0 49).toInt = (I5 v0 49).toInt := by rw [f_I9.2.2.1 v0 12 49 kv0 (by decide) (by decide)]
  refine s_X12_tell w_I9 v0 (((I9 v0 50) - v3).toInt64) kv0  (by omega) (fun  I14 L15 w_I14 f_I14 p13 => ?_)
  have q_I14 : FR Ws_X12_tellMore Z I Z I14 := q_I9.trans w_I.1 w_I.2.1 (f_I14.mono (by decide))
  have u16 : (I14 v0 48).toInt = (I9 v0 48).toInt := by rw [f_I14.2.2.1 v0 12 48 kv0 (by decide) (by decide)]
  have u17 : (I14 v0 49).toInt = (I9 v0 49).toInt := by rw [f_I14.2.2.1 v0 12 49 kv0 (by decide) (by decide)]
  have u18 : (I14 v0 50).toInt = (I9 v0 50).toInt := by rw [f_I14.2.2.1 v0 12 50 kv0 (by decide) (by decide)]
  refine ⟨fun c19 => ?_, fun c19 => ?_⟩
  · skip
    first | (have t20 : ¬ ((I14 v0 48).toInt = v1.toInt) := (not_congr (i_eq rfl rfl)).mp c19) | (have t20 : ¬ ((I14 v0 48).toInt = v1.toInt) := (not_congr (i_eq rfl rfl)).mp c19) | skip
    unfold f_X12_tellMore_b62
    have t21 : (1 : Int32).toInt = 1 := rfl
    exact hQ (1 : Int32) I14 L15 w_I14 q_I14 
  · skip
    first | (have t22 : (I14 v0 48).toInt = v1.toInt := (i_eq rfl rfl).mp c19) | (have t22 : (I14 v0 48).toInt = v1.toInt := (i_eq rfl rfl).mp c19) | skip
    refine ⟨fun c23 => ?_, fun c23 => ?_⟩
    · skip
      first | (have t24 : ¬ ((I14 v0 49).toInt = v2.toInt) := (not_congr (i_eq rfl rfl)).mp c23) | (have t24 : ¬ ((I14 v0 49).toInt = v2.toInt) := (not_congr (i_eq rfl rfl)).mp c23) | skip
      unfold f_X12_tellMore_b62
      have t25 : (1 : Int32).toInt = 1 := rfl
      exact hQ (1 : Int32) I14 L15 w_I14 q_I14 
    · skip
      first | (have t26 : (I14 v0 49).toInt = v2.toInt := (i_eq rfl rfl).mp c23) | (have t26 : (I14 v0 49).toInt = v2.toInt := (i_eq rfl rfl).mp c23) | skip
      refine ⟨fun c27 => ?_, fun c27 => ?_⟩
      · skip
        first | (have t28 : (I14 v0 50).toInt = v3.toInt := (i_eq rfl rfl).mp c27) | (have t28 : (I14 v0 50).toInt = v3.toInt := (i_eq rfl rfl).mp c27) | skip
        have t29 : (0 : Int32).toInt = 0 := rfl
        exact hQ (0 : Int32) I14 L15 w_I14 q_I14 
      · skip
        first | (have t30 : ¬ ((I14 v0 50).toInt = v3.toInt) := (not_congr (i_eq rfl rfl)).mp c27) | (have t30 : ¬ ((I14 v0 50).toInt = v3.toInt) := (not_congr (i_eq rfl rfl)).mp c27) | skip
        unfold f_X12_tellMore_b62
        have t31 : (1 : Int32).toInt = 1 := rfl
        exact hQ (1 : Int32) I14 L15 w_I14 q_I14 
def Ws_X12_mends : List (Nat × Nat) := [(12, 2), (12, 17), (12, 22), (12, 35)]
set_option maxHeartbeats 4000000 in
set_option maxRecDepth 100000 in
theorem s_X12_mends {Z : jZ} {I : jI} {L : jL} (w_I : WD Z I) (v0 : Nat) (v1 : Int32) (kv0 : jk Z v0 12) {Q : Int32 → jI → jL → Prop} (hQ : ∀ (r : Int32) (I' : jI) (L' : jL), WD Z I' → FR Ws_X12_mends Z I Z I' → Q r I' L') : f_X12_mends v0 v1 Z I L Q := by
  unfold f_X12_mends
  have q_I : FR Ws_X12_mends Z I Z I := FR.rf
  have rv1 := i_rng v1
  intro I1 eI1
  have t2 : (0 : Int32).toInt = 0 := rfl
  have w_I1 : WD Z I1 := by rw [eI1]; exact WD_putF w_I 12 22 kv0 (by decide) (by decide) trivial
  have f_I1 : FR [(12, 22)] Z I Z I1 := by rw [eI1]; exact FR_putF kv0 (by decide) List.mem_cons_self
  have q_I1 : FR Ws_X12_mends Z I Z I1 := q_I.trans w_I.1 w_I.2.1 (f_I1.mono (by decide))
  first | (have u3 : (I1 v0 22).toInt = (0) := by (rw [eI1, show jpI I v0 22 (0 : Int32) v0 22 = (0 : Int32) from jpI_at] <;> exact (show (0 : Int32).toInt = 0 from rfl))) | skip
  refine s_X12_isStep w_I1 v0 v1 kv0   (fun r4 p5 => ?_)
  have rr4 := i_rng r4
  refine ⟨fun c6 => ?_, fun c6 => ?_⟩
  · skip
    first | (have t7 : ¬ (r4.toInt = (0)) := (not_congr (i_eq rfl (show (0 : Int32).toInt = 0 from rfl))).mp c6) | (have t7 : ¬ (r4.toInt = (0 : Int32).toInt) := (not_congr (i_eq rfl rfl)).mp c6) | skip
    intro b8 eb8
    obtain ⟨x9, ex9, kb8, lb8⟩ := sh_f w_I1.1 kv0 (j := 2) (k := 14) (m := 24) rfl
    cases eb8.symm.trans ex9
    have o10 : vp_in v1 24 := vi_of rfl (by omega) (by omega)
    refine ⟨o10, ?_⟩
    have t11 : 0 ≤ (I1 b8 v1.toNatClampNeg).toInt ∧ (I1 b8 v1.toNatClampNeg).toInt ≤ 9 := w_I1.arr 12 2 kv0 eb8 kb8 rfl rfl _
    intro b12 eb12
    obtain ⟨x13, ex13, kb12, lb12⟩ := sh_f w_I1.1 kv0 (j := 1) (k := 14) (m := 24) rfl
    cases eb12.symm.trans ex13
    have o14 : vp_in v1 24 := vi_of rfl (by omega) (by omega)
    refine ⟨o14, ?_⟩
    have t15 : 0 ≤ (I1 b12 v1.toNatClampNeg).toInt ∧ (I1 b12 v1.toNatClampNeg).toInt ≤ 30 := w_I1.arr 12 1 kv0 eb12 kb12 rfl rfl _
    intro x16 ex16
    have rx16 := i_rng x16
    first | (have tx16 : x16.toInt = (((9 : Int32) - (I1 b8 v1.toNatClampNeg)) * (I1 b12 v1.toNatClampNeg)).toInt := by (rw [ex16]; exact rfl)) | (have tx16 : x16.toInt = (((9 : Int32) - (I1 b8 v1.toNatClampNeg)) * (I1 b12 v1.toNatClampNeg)).toInt := by rw [ex16])
    have t17 : (-1 : Int32).toInt = -1 := rfl
    refine s_X12_earn w_I1 v0 v1 x16 (-1 : Int32) kv0  (by omega) (fun  I18 L19 w_I18 f_I18  => ?_)
    have q_I18 : FR Ws_X12_mends Z I Z I18 := q_I1.trans w_I.1 w_I.2.1 (f_I18.mono (by decide))
    have u20 : (I18 v0 22).toInt = (I1 v0 22).toInt := by rw [f_I18.2.2.1 v0 12 22 kv0 (by decide) (by decide)]
    intro b21 eb21
    obtain rfl : b8 = b21 := Option.some.inj (eb8.symm.trans eb21)
    have o22 : vp_in v1 24 := vi_of rfl (by omega) (by omega)
    refine ⟨o22, ?_⟩
    intro I23 eI23
    have t24 : (9 : Int32).toInt = 9 := rfl
    have w_I23 : WD Z I23 := by rw [eI23]; exact WD_putA w_I18 12 2 kv0 eb8 kb8 rfl rfl (by decide) (by constructor <;> omega)
    have f_I23 : FR [(12, 2)] Z I18 Z I23 := by rw [eI23]; exact FR_upA w_I18.2.1 kv0 eb8 kb8 rfl rfl List.mem_cons_self
    have q_I23 : FR Ws_X12_mends Z I Z I23 := q_I18.trans w_I.1 w_I.2.1 (f_I23.mono (by decide))
    have u25 : (I23 v0 22).toInt = (I18 v0 22).toInt := by rw [f_I23.2.2.1 v0 12 22 kv0 (by decide) (by decide)]
    exact hQ x16 I23 L19 w_I23 q_I23 
  · skip
    first | (have t26 : r4.toInt = (0) := (i_eq rfl (show (0 : Int32).toInt = 0 from rfl)).mp c6) | (have t26 : r4.toInt = (0 : Int32).toInt := (i_eq rfl rfl).mp c6) | skip
    have t27 : (-1 : Int32).toInt = -1 := rfl
    exact hQ (-1 : Int32) I1 L w_I1 q_I1 
def Ws_X12_lamps : List (Nat × Nat) := [(12, 21), (12, 22)]
set_option maxHeartbeats 4000000 in
set_option maxRecDepth 100000 in
theorem l_X12_lamps_L33 {Z : jZ} {I0 : jI} {Q : Int32 → jI → jL → Prop} (w0 : WD Z I0) (v0 : Nat) (v1 : Int32) (kv0 : jk Z v0 12) (hQ : ∀ (r : Int32) (I' : jI) (L' : jL), WD Z I' → FR Ws_X12_lamps Z I0 Z I' → Q r I' L') : ∀ (n : Nat) (v2 : Int32) (v3 : Int32) (I : jI) (L : jL), WD Z I → FR Ws_X12_lamps Z I0 Z I →   (0 ≤ v3.toInt ∧ v3.toInt ≤ 47 ∧ 0 ≤ v2.toInt ∧ v2.toInt ≤ v3.toInt ∧ 0 ≤ v1.toInt ∧ v1.toInt ≤ 23 ∧ 0 ≤ (I v0 21).toInt ∧ (I v0 21).toInt ≤ v3.toInt ∧ (I v0 21).toInt ≤ 24) → 47 - v3.toInt < (n : Int) → f_X12_lamps_L33  Z Q n v0 v1 v2 v3 I L := by
  intro n
  induction n with
  | zero =>
    intro v2 v3 I L w_I q_I   li  me
    exfalso
    omega
  | succ n ih =>
    intro v2 v3 I L w_I q_I   li  me
    unfold f_X12_lamps_L33
    have rv2 := i_rng v2
    have rv3 := i_rng v3
    have rv1 := i_rng v1
    have t2 : 0 ≤ (I v0 0).toInt ∧ (I v0 0).toInt ≤ 24 := w_I.fld 12 0 kv0 (by decide)
    refine ⟨fun c3 => ?_, fun c3 => ?_⟩
    · skip
      first | (have t4 : (I v0 0).toInt ≤ v3.toInt := (i_le rfl rfl).mp c3) | (have t4 : (I v0 0).toInt ≤ v3.toInt := (i_le rfl rfl).mp c3) | skip
      exact hQ v2 I L w_I q_I 
    · skip
      first | (have t5 : ¬ ((I v0 0).toInt ≤ v3.toInt) := (not_congr (i_le rfl rfl)).mp c3) | (have t5 : ¬ ((I v0 0).toInt ≤ v3.toInt) := (not_congr (i_le rfl rfl)).mp c3) | skip
      have t7 : 0 ≤ (I v0 0).toInt ∧ (I v0 0).toInt ≤ 24 := w_I.fld 12 0 kv0 (by decide)
      intro x8 ex8
      have rx8 := i_rng x8
      first | (have tx8 : x8.toInt = (min ((I v0 0).toInt - (1)) (v3.toInt + v1.toInt)) := by (rw [ex8]; exact (i_min (i_sub rfl (show (1 : Int32).toInt = 1 from rfl) (by omega) (by omega)) (i_add rfl rfl (by omega) (by omega))))) | (have tx8 : x8.toInt = (if (v3 + v1) < ((I v0 0) - (1 : Int32)) then (v3 + v1) else ((I v0 0) - (1 : Int32))).toInt := by rw [ex8])
      refine s_X12_tell w_I v0 (x8.toInt64) kv0  (by omega) (fun  I10 L11 w_I10 f_I10 p9 => ?_)
      have q_I10 : FR Ws_X12_lamps Z I0 Z I10 := q_I.trans w0.1 w0.2.1 (f_I10.mono (by decide))
      have u12 : (I10 v0 0).toInt = (I v0 0).toInt := by rw [f_I10.2.2.1 v0 12 0 kv0 (by decide) (by decide)]
      intro x13 ex13
      have rx13 := i_rng x13
      first | (have tx13 : x13.toInt = ((x8.toInt + v1.toInt) + (1)) := by (rw [ex13]; exact (i_add (i_add rfl rfl (by omega) (by omega)) (show (1 : Int32).toInt = 1 from rfl) (by omega) (by omega)))) | (have tx13 : x13.toInt = ((x8 + v1) + (1 : Int32)).toInt := by rw [ex13])
      intro x14 ex14
      have rx14 := i_rng x14
      first | (have tx14 : x14.toInt = v2.toInt + (1) := by (rw [ex14]; exact (i_add rfl (show (1 : Int32).toInt = 1 from rfl) (by omega) (by omega)))) | skip
      exact ih x14 x13 I10 L11 w_I10 q_I10   (by omega)  (by omega)
set_option maxHeartbeats 4000000 in
set_option maxRecDepth 100000 in
theorem s_X12_lamps {Z : jZ} {I : jI} {L : jL} (w_I : WD Z I) (v0 : Nat) (v1 : Int32) (kv0 : jk Z v0 12) {Q : Int32 → jI → jL → Prop} (hQ : ∀ (r : Int32) (I' : jI) (L' : jL), WD Z I' → FR Ws_X12_lamps Z I Z I' → Q r I' L') : f_X12_lamps v0 v1 Z I L Q := by
  unfold f_X12_lamps
  have q_I : FR Ws_X12_lamps Z I Z I := FR.rf
  have rv1 := i_rng v1
  intro I15 eI15
  have t16 : (0 : Int32).toInt = 0 := rfl
  have w_I15 : WD Z I15 := by rw [eI15]; exact WD_putF w_I 12 22 kv0 (by decide) (by decide) trivial
  have f_I15 : FR [(12, 22)] Z I Z I15 := by rw [eI15]; exact FR_putF kv0 (by decide) List.mem_cons_self
  have q_I15 : FR Ws_X12_lamps Z I Z I15 := q_I.trans w_I.1 w_I.2.1 (f_I15.mono (by decide))
  first | (have u17 : (I15 v0 22).toInt = (0) := by (rw [eI15, show jpI I v0 22 (0 : Int32) v0 22 = (0 : Int32) from jpI_at] <;> exact (show (0 : Int32).toInt = 0 from rfl))) | skip
  have t19 : 0 ≤ (I15 v0 0).toInt ∧ (I15 v0 0).toInt ≤ 24 := w_I15.fld 12 0 kv0 (by decide)
  refine ⟨fun c20 => ?_, fun c20 => ?_⟩
  · skip
    first | (have t21 : (I15 v0 0).toInt = (0) := (i_eq rfl (show (0 : Int32).toInt = 0 from rfl)).mp c20) | (have t21 : (I15 v0 0).toInt = (0 : Int32).toInt := (i_eq rfl rfl).mp c20) | skip
    have t22 : (-1 : Int32).toInt = -1 := rfl
    exact hQ (-1 : Int32) I15 L w_I15 q_I15 
  · skip
    first | (have t23 : ¬ ((I15 v0 0).toInt = (0)) := (not_congr (i_eq rfl (show (0 : Int32).toInt = 0 from rfl))).mp c20) | (have t23 : ¬ ((I15 v0 0).toInt = (0 : Int32).toInt) := (not_congr (i_eq rfl rfl)).mp c20) | skip
    have t24 : (0 : Int32).toInt = 0 := rfl
    have t25 : (23 : Int32).toInt = 23 := rfl
    refine s_X12_in w_I15 v1 (0 : Int32) (23 : Int32)    (fun r26 p27 => ?_)
    have rr26 := i_rng r26
    refine ⟨fun c28 => ?_, fun c28 => ?_⟩
    · skip
      first | (have t29 : ¬ (r26.toInt = (0)) := (not_congr (i_eq rfl (show (0 : Int32).toInt = 0 from rfl))).mp c28) | (have t29 : ¬ (r26.toInt = (0 : Int32).toInt) := (not_congr (i_eq rfl rfl)).mp c28) | skip
      intro I30 eI30
      have t31 : (0 : Int32).toInt = 0 := rfl
      have w_I30 : WD Z I30 := by rw [eI30]; exact WD_putF w_I15 12 21 kv0 (by decide) (by decide) (by constructor <;> omega)
      have f_I30 : FR [(12, 21)] Z I15 Z I30 := by rw [eI30]; exact FR_putF kv0 (by decide) List.mem_cons_self
      have q_I30 : FR Ws_X12_lamps Z I Z I30 := q_I15.trans w_I.1 w_I.2.1 (f_I30.mono (by decide))
      have u32 : (I30 v0 22).toInt = (I15 v0 22).toInt := by rw [f_I30.2.2.1 v0 12 22 kv0 (by decide) (by decide)]
      have u33 : (I30 v0 0).toInt = (I15 v0 0).toInt := by rw [f_I30.2.2.1 v0 12 0 kv0 (by decide) (by decide)]
      first | (have u34 : (I30 v0 21).toInt = (0) := by (rw [eI30, show jpI I15 v0 21 (0 : Int32) v0 21 = (0 : Int32) from jpI_at] <;> exact (show (0 : Int32).toInt = 0 from rfl))) | skip
      have t35 : (0 : Int32).toInt = 0 := rfl
      have t36 : (0 : Int32).toInt = 0 := rfl
      exact ⟨(47 - (0 : Int32).toInt).toNat + 1, l_X12_lamps_L33 w_I v0 v1 kv0   hQ   _ (0 : Int32) (0 : Int32) I30 L w_I30 q_I30   (by omega)  (by omega)⟩
    · skip
      first | (have t37 : r26.toInt = (0) := (i_eq rfl (show (0 : Int32).toInt = 0 from rfl)).mp c28) | (have t37 : r26.toInt = (0 : Int32).toInt := (i_eq rfl rfl).mp c28) | skip
      have t38 : (-1 : Int32).toInt = -1 := rfl
      exact hQ (-1 : Int32) I15 L w_I15 q_I15 
def Ws_X12_rememberParts : List (Nat × Nat) := [(12, 52), (12, 53)]
set_option maxHeartbeats 4000000 in
set_option maxRecDepth 100000 in
theorem l_X12_rememberParts_L55 {Z : jZ} {I0 : jI} {Q : jI → jL → Prop} (w0 : WD Z I0) (v0 : Nat) (kv0 : jk Z v0 12) (v1 : Int32) (hQ : ∀  (I' : jI) (L' : jL), WD Z I' → FR Ws_X12_rememberParts Z I0 Z I' → Q I' L') : ∀ (n : Nat) (v2 : Int32) (I : jI) (L : jL), WD Z I → FR Ws_X12_rememberParts Z I0 Z I →   (0 ≤ v2.toInt ∧ v2.toInt ≤ 192 ∧ v1.toInt = 192 ∧ 0 ≤ (I v0 52).toInt ∧ (I v0 52).toInt ≤ 7) → 192 - v2.toInt < (n : Int) → f_X12_rememberParts_L55  Z Q n v0 v1 v2 I L := by
  intro n
  induction n with
  | zero =>
    intro v2 I L w_I q_I   li  me
    exfalso
    omega
  | succ n ih =>
    intro v2 I L w_I q_I   li  me
    unfold f_X12_rememberParts_L55
    have rv2 := i_rng v2
    have rv1 := i_rng v1
    have t1 : 0 ≤ (I v0 52).toInt ∧ (I v0 52).toInt ≤ 8 := w_I.fld 12 52 kv0 (by decide)
    refine ⟨fun c2 => ?_, fun c2 => ?_⟩
    · skip
      first | (have t3 : (192) ≤ v2.toInt := (i_le (show v1.toInt = 192 by omega) rfl).mp c2) | (have t3 : v1.toInt ≤ v2.toInt := (i_le rfl rfl).mp c2) | skip
      have t5 : 0 ≤ (I v0 52).toInt ∧ (I v0 52).toInt ≤ 8 := w_I.fld 12 52 kv0 (by decide)
      intro I6 eI6
      try (have t7 : ((I v0 52) + (1 : Int32)).toInt = ((I v0 52).toInt + (1)) := (i_add rfl (show (1 : Int32).toInt = 1 from rfl) (by omega) (by omega)))
      have w_I6 : WD Z I6 := by rw [eI6]; exact WD_putF w_I 12 52 kv0 (by decide) (by decide) (by constructor <;> omega)
      have f_I6 : FR [(12, 52)] Z I Z I6 := by rw [eI6]; exact FR_putF kv0 (by decide) List.mem_cons_self
      have q_I6 : FR Ws_X12_rememberParts Z I0 Z I6 := q_I.trans w0.1 w0.2.1 (f_I6.mono (by decide))
      first | (have u8 : (I6 v0 52).toInt = ((I v0 52).toInt + (1)) := by (rw [eI6, show jpI I v0 52 ((I v0 52) + (1 : Int32)) v0 52 = ((I v0 52) + (1 : Int32)) from jpI_at] <;> exact (i_add rfl (show (1 : Int32).toInt = 1 from rfl) (by omega) (by omega)))) | skip
      exact hQ  I6 L w_I6 q_I6 
    · skip
      first | (have t9 : ¬ ((192) ≤ v2.toInt) := (not_congr (i_le (show v1.toInt = 192 by omega) rfl)).mp c2) | (have t9 : ¬ (v1.toInt ≤ v2.toInt) := (not_congr (i_le rfl rfl)).mp c2) | skip
      intro b10 eb10
      obtain ⟨x11, ex11, kb10, lb10⟩ := sh_f w_I.1 kv0 (j := 53) (k := 14) (m := 1536) rfl
      cases eb10.symm.trans ex11
      have t13 : 0 ≤ (I v0 52).toInt ∧ (I v0 52).toInt ≤ 8 := w_I.fld 12 52 kv0 (by decide)
      intro b14 eb14
      obtain ⟨x15, ex15, kb14, lb14⟩ := sh_f w_I.1 kv0 (j := 54) (k := 14) (m := 192) rfl
      cases eb14.symm.trans ex15
      have o16 : vp_in v2 192 := vi_of rfl (by omega) (by omega)
      refine ⟨o16, ?_⟩
      have o17 : vp_in ((v1 * (I v0 52)) + v2) 1536 := vi_of (i_add (i_mul (show v1.toInt = 192 by omega) rfl (by omega) (by omega)) rfl (by omega) (by omega)) (by omega) (by omega)
      refine ⟨o17, ?_⟩
      intro I18 eI18
      have w_I18 : WD Z I18 := by rw [eI18]; exact WD_putA w_I 12 53 kv0 eb10 kb10 rfl rfl (by decide) trivial
      have f_I18 : FR [(12, 53)] Z I Z I18 := by rw [eI18]; exact FR_upA w_I.2.1 kv0 eb10 kb10 rfl rfl List.mem_cons_self
      have q_I18 : FR Ws_X12_rememberParts Z I0 Z I18 := q_I.trans w0.1 w0.2.1 (f_I18.mono (by decide))
      have u19 : (I18 v0 52).toInt = (I v0 52).toInt := by rw [f_I18.2.2.1 v0 12 52 kv0 (by decide) (by decide)]
      intro x20 ex20
      have rx20 := i_rng x20
      first | (have tx20 : x20.toInt = v2.toInt + (1) := by (rw [ex20]; exact (i_add rfl (show (1 : Int32).toInt = 1 from rfl) (by omega) (by omega)))) | skip
      exact ih x20 I18 L w_I18 q_I18   (by omega)  (by omega)
set_option maxHeartbeats 4000000 in
set_option maxRecDepth 100000 in
theorem l_X12_rememberParts_L15 {Z : jZ} {I0 : jI} {Q : jI → jL → Prop} (w0 : WD Z I0) (v0 : Nat) (kv0 : jk Z v0 12) (v1 : Int32) (hQ : ∀  (I' : jI) (L' : jL), WD Z I' → FR Ws_X12_rememberParts Z I0 Z I' → Q I' L') : ∀ (n : Nat) (v2 : Int32) (I : jI) (L : jL), WD Z I → FR Ws_X12_rememberParts Z I0 Z I →   (0 ≤ v2.toInt ∧ v2.toInt ≤ 1344 ∧ v1.toInt = 192 ∧ (I v0 52).toInt = 8) → 1344 - v2.toInt < (n : Int) → f_X12_rememberParts_L15  Z Q n v0 v1 v2 I L := by
  intro n
  induction n with
  | zero =>
    intro v2 I L w_I q_I   li  me
    exfalso
    omega
  | succ n ih =>
    intro v2 I L w_I q_I   li  me
    unfold f_X12_rememberParts_L15
    have rv2 := i_rng v2
    have rv1 := i_rng v1
    have t21 : 0 ≤ (I v0 52).toInt ∧ (I v0 52).toInt ≤ 8 := w_I.fld 12 52 kv0 (by decide)
    refine ⟨fun c22 => ?_, fun c22 => ?_⟩
    · skip
      first | (have t23 : ((192) * (7)) ≤ v2.toInt := (i_le (i_mul (show v1.toInt = 192 by omega) (show (7 : Int32).toInt = 7 from rfl) (by omega) (by omega)) rfl).mp c22) | (have t23 : (v1 * (7 : Int32)).toInt ≤ v2.toInt := (i_le rfl rfl).mp c22) | skip
      have t25 : 0 ≤ (I v0 52).toInt ∧ (I v0 52).toInt ≤ 8 := w_I.fld 12 52 kv0 (by decide)
      intro I26 eI26
      try (have t27 : ((I v0 52) - (1 : Int32)).toInt = ((I v0 52).toInt - (1)) := (i_sub rfl (show (1 : Int32).toInt = 1 from rfl) (by omega) (by omega)))
      have w_I26 : WD Z I26 := by rw [eI26]; exact WD_putF w_I 12 52 kv0 (by decide) (by decide) (by constructor <;> omega)
      have f_I26 : FR [(12, 52)] Z I Z I26 := by rw [eI26]; exact FR_putF kv0 (by decide) List.mem_cons_self
      have q_I26 : FR Ws_X12_rememberParts Z I0 Z I26 := q_I.trans w0.1 w0.2.1 (f_I26.mono (by decide))
      first | (have u28 : (I26 v0 52).toInt = ((I v0 52).toInt - (1)) := by (rw [eI26, show jpI I v0 52 ((I v0 52) - (1 : Int32)) v0 52 = ((I v0 52) - (1 : Int32)) from jpI_at] <;> exact (i_sub rfl (show (1 : Int32).toInt = 1 from rfl) (by omega) (by omega)))) | skip
      unfold f_X12_rememberParts_b53
      have t29 : (0 : Int32).toInt = 0 := rfl
      exact ⟨(192 - (0 : Int32).toInt).toNat + 1, l_X12_rememberParts_L55 w0 v0 kv0 v1  hQ   _ (0 : Int32) I26 L w_I26 q_I26   (by omega)  (by omega)⟩
    · skip
      first | (have t30 : ¬ (((192) * (7)) ≤ v2.toInt) := (not_congr (i_le (i_mul (show v1.toInt = 192 by omega) (show (7 : Int32).toInt = 7 from rfl) (by omega) (by omega)) rfl)).mp c22) | (have t30 : ¬ ((v1 * (7 : Int32)).toInt ≤ v2.toInt) := (not_congr (i_le rfl rfl)).mp c22) | skip
      intro b31 eb31
      obtain ⟨x32, ex32, kb31, lb31⟩ := sh_f w_I.1 kv0 (j := 53) (k := 14) (m := 1536) rfl
      cases eb31.symm.trans ex32
      intro b33 eb33
      obtain rfl : b31 = b33 := Option.some.inj (eb31.symm.trans eb33)
      have o34 : vp_in (v2 + v1) 1536 := vi_of (i_add rfl (show v1.toInt = 192 by omega) (by omega) (by omega)) (by omega) (by omega)
      refine ⟨o34, ?_⟩
      have o35 : vp_in v2 1536 := vi_of rfl (by omega) (by omega)
      refine ⟨o35, ?_⟩
      intro I36 eI36
      have w_I36 : WD Z I36 := by rw [eI36]; exact WD_putA w_I 12 53 kv0 eb31 kb31 rfl rfl (by decide) trivial
      have f_I36 : FR [(12, 53)] Z I Z I36 := by rw [eI36]; exact FR_upA w_I.2.1 kv0 eb31 kb31 rfl rfl List.mem_cons_self
      have q_I36 : FR Ws_X12_rememberParts Z I0 Z I36 := q_I.trans w0.1 w0.2.1 (f_I36.mono (by decide))
      have u37 : (I36 v0 52).toInt = (I v0 52).toInt := by rw [f_I36.2.2.1 v0 12 52 kv0 (by decide) (by decide)]
      intro x38 ex38
      have rx38 := i_rng x38
      first | (have tx38 : x38.toInt = v2.toInt + (1) := by (rw [ex38]; exact (i_add rfl (show (1 : Int32).toInt = 1 from rfl) (by omega) (by omega)))) | skip
      exact ih x38 I36 L w_I36 q_I36   (by omega)  (by omega)
set_option maxHeartbeats 4000000 in
set_option maxRecDepth 100000 in
theorem s_X12_rememberParts {Z : jZ} {I : jI} {L : jL} (w_I : WD Z I) (v0 : Nat) (kv0 : jk Z v0 12) {Q : jI → jL → Prop} (hQ : ∀  (I' : jI) (L' : jL), WD Z I' → FR Ws_X12_rememberParts Z I Z I' → Q I' L') : f_X12_rememberParts v0 Z I L Q := by
  unfold f_X12_rememberParts
  have q_I : FR Ws_X12_rememberParts Z I Z I := FR.rf
  have t39 : 0 ≤ (I v0 52).toInt ∧ (I v0 52).toInt ≤ 8 := w_I.fld 12 52 kv0 (by decide)
  have t41 : 0 ≤ (I v0 52).toInt ∧ (I v0 52).toInt ≤ 8 := w_I.fld 12 52 kv0 (by decide)
  refine ⟨fun c42 => ?_, fun c42 => ?_⟩
  · skip
    first | (have t43 : ¬ ((I v0 52).toInt = (8)) := (not_congr (i_eq rfl (show (8 : Int32).toInt = 8 from rfl))).mp c42) | (have t43 : ¬ ((I v0 52).toInt = (8 : Int32).toInt) := (not_congr (i_eq rfl rfl)).mp c42) | skip
    unfold f_X12_rememberParts_b53
    have t44 : (192 : Int32).toInt = 192 := rfl
    have t45 : (0 : Int32).toInt = 0 := rfl
    exact ⟨(192 - (0 : Int32).toInt).toNat + 1, l_X12_rememberParts_L55 w_I v0 kv0 (192 : Int32)  hQ   _ (0 : Int32) I L w_I q_I   (by omega)  (by omega)⟩
  · skip
    first | (have t46 : (I v0 52).toInt = (8) := (i_eq rfl (show (8 : Int32).toInt = 8 from rfl)).mp c42) | (have t46 : (I v0 52).toInt = (8 : Int32).toInt := (i_eq rfl rfl).mp c42) | skip
    have t47 : (192 : Int32).toInt = 192 := rfl
    have t48 : (0 : Int32).toInt = 0 := rfl
    exact ⟨(1344 - (0 : Int32).toInt).toNat + 1, l_X12_rememberParts_L15 w_I v0 kv0 (192 : Int32)  hQ   _ (0 : Int32) I L w_I q_I   (by omega)  (by omega)⟩
def Ws_X12_parts : List (Nat × Nat) := [(12, 22)]
set_option maxHeartbeats 4000000 in
set_option maxRecDepth 100000 in
theorem s_X12_parts {Z : jZ} {I : jI} {L : jL} (w_I : WD Z I) (v0 : Nat) (v1 : Int32) (v2 : Int32) (kv0 : jk Z v0 12) {Q : Int32 → jI → jL → Prop} (hQ : ∀ (r : Int32) (I' : jI) (L' : jL), WD Z I' → FR Ws_X12_parts Z I Z I' → Q r I' L') : f_X12_parts v0 v1 v2 Z I L Q := by
  unfold f_X12_parts
  have q_I : FR Ws_X12_parts Z I Z I := FR.rf
  have rv1 := i_rng v1
  have rv2 := i_rng v2
  intro I1 eI1
  have t2 : (0 : Int32).toInt = 0 := rfl
  have w_I1 : WD Z I1 := by rw [eI1]; exact WD_putF w_I 12 22 kv0 (by decide) (by decide) trivial
  have f_I1 : FR [(12, 22)] Z I Z I1 := by rw [eI1]; exact FR_putF kv0 (by decide) List.mem_cons_self
  have q_I1 : FR Ws_X12_parts Z I Z I1 := q_I.trans w_I.1 w_I.2.1 (f_I1.mono (by decide))
  first | (have u3 : (I1 v0 22).toInt = (0) := by (rw [eI1, show jpI I v0 22 (0 : Int32) v0 22 = (0 : Int32) from jpI_at] <;> exact (show (0 : Int32).toInt = 0 from rfl))) | skip
  refine s_X12_isStep w_I1 v0 v1 kv0   (fun r4 p5 => ?_)
  have rr4 := i_rng r4
  refine ⟨fun c6 => ?_, fun c6 => ?_⟩
  · skip
    first | (have t7 : r4.toInt = (0) := (i_eq rfl (show (0 : Int32).toInt = 0 from rfl)).mp c6) | (have t7 : r4.toInt = (0 : Int32).toInt := (i_eq rfl rfl).mp c6) | skip
    have t8 : (-1 : Int32).toInt = -1 := rfl
    exact hQ (-1 : Int32) I1 L w_I1 q_I1 
  · skip
    first | (have t9 : ¬ (r4.toInt = (0)) := (not_congr (i_eq rfl (show (0 : Int32).toInt = 0 from rfl))).mp c6) | (have t9 : ¬ (r4.toInt = (0 : Int32).toInt) := (not_congr (i_eq rfl rfl)).mp c6) | skip
    refine s_X12_isFamily w_I1 v2    (fun r10 p11 => ?_)
    have rr10 := i_rng r10
    refine ⟨fun c12 => ?_, fun c12 => ?_⟩
    · skip
      first | (have t13 : r10.toInt = (0) := (i_eq rfl (show (0 : Int32).toInt = 0 from rfl)).mp c12) | (have t13 : r10.toInt = (0 : Int32).toInt := (i_eq rfl rfl).mp c12) | skip
      have t14 : (-1 : Int32).toInt = -1 := rfl
      exact hQ (-1 : Int32) I1 L w_I1 q_I1 
    · skip
      first | (have t15 : ¬ (r10.toInt = (0)) := (not_congr (i_eq rfl (show (0 : Int32).toInt = 0 from rfl))).mp c12) | (have t15 : ¬ (r10.toInt = (0 : Int32).toInt) := (not_congr (i_eq rfl rfl)).mp c12) | skip
      intro b16 eb16
      obtain ⟨x17, ex17, kb16, lb16⟩ := sh_f w_I1.1 kv0 (j := 5) (k := 14) (m := 192) rfl
      cases eb16.symm.trans ex17
      have o18 : vp_in (((8 : Int32) * v1) + v2) 192 := vi_of (i_add (i_mul (show (8 : Int32).toInt = 8 from rfl) rfl (by omega) (by omega)) rfl (by omega) (by omega)) (by omega) (by omega)
      refine ⟨o18, ?_⟩
      exact hQ (I1 b16 (((8 : Int32) * v1) + v2).toNatClampNeg) I1 L w_I1 q_I1 
def Ws_X12_sells : List (Nat × Nat) := [(12, 5), (12, 22), (12, 52), (12, 53), (12, 54)]
set_option maxHeartbeats 4000000 in
set_option maxRecDepth 100000 in
theorem l_X12_sells_L85 {Z : jZ} {I0 : jI} {Q : Int32 → jI → jL → Prop} (w0 : WD Z I0) (v0 : Nat) (v1 : Int32) (v2 : Int32) (v3 : Int32) (v4 : Int32) (v5 : Int32) (kv0 : jk Z v0 12) (v6 : Int32) (hQ : ∀ (r : Int32) (I' : jI) (L' : jL), WD Z I' → FR Ws_X12_sells Z I0 Z I' → Q r I' L') : ∀ (n : Nat) (v7 : Int32) (I : jI) (L : jL), WD Z I → FR Ws_X12_sells Z I0 Z I →   (0 ≤ v7.toInt ∧ v7.toInt ≤ 192 ∧ 0 ≤ v1.toInt ∧ v1.toInt ≤ 23 ∧ 0 ≤ v2.toInt ∧ v2.toInt ≤ 7 ∧ 0 ≤ v3.toInt ∧ v3.toInt ≤ 7) → 192 - v7.toInt < (n : Int) → f_X12_sells_L85  Z Q n v0 v1 v2 v3 v6 v7 I L := by
  intro n
  induction n with
  | zero =>
    intro v7 I L w_I q_I   li  me
    exfalso
    omega
  | succ n ih =>
    intro v7 I L w_I q_I   li  me
    unfold f_X12_sells_L85
    have rv7 := i_rng v7
    have rv6 := i_rng v6
    have rv1 := i_rng v1
    have rv2 := i_rng v2
    have rv3 := i_rng v3
    have rv4 := i_rng v4
    have rv5 := i_rng v5
    intro b1 eb1
    obtain ⟨x2, ex2, kb1, lb1⟩ := sh_f w_I.1 kv0 (j := 54) (k := 14) (m := 192) rfl
    cases eb1.symm.trans ex2
    refine ⟨fun c3 => ?_, fun c3 => ?_⟩
    · skip
      first | (have t4 : (192) ≤ v7.toInt := (i_le (show (192 : Int32).toInt = 192 from rfl) rfl).mp c3) | (have t4 : (192 : Int32).toInt ≤ v7.toInt := (i_le rfl rfl).mp c3) | skip
      refine s_X12_rememberParts w_I v0 kv0   (fun  I5 L6 w_I5 f_I5  => ?_)
      have q_I5 : FR Ws_X12_sells Z I0 Z I5 := q_I.trans w0.1 w0.2.1 (f_I5.mono (by decide))
      intro b7 eb7
      obtain ⟨x8, ex8, kb7, lb7⟩ := sh_f w_I5.1 kv0 (j := 5) (k := 14) (m := 192) rfl
      cases eb7.symm.trans ex8
      have o9 : vp_in (((8 : Int32) * v1) + v2) 192 := vi_of (i_add (i_mul (show (8 : Int32).toInt = 8 from rfl) rfl (by omega) (by omega)) rfl (by omega) (by omega)) (by omega) (by omega)
      refine ⟨o9, ?_⟩
      have o10 : vp_in (((8 : Int32) * v1) + v2) 192 := vi_of (i_add (i_mul (show (8 : Int32).toInt = 8 from rfl) rfl (by omega) (by omega)) rfl (by omega) (by omega)) (by omega) (by omega)
      refine ⟨o10, ?_⟩
      intro I11 eI11
      try (have t12 : ((I5 b7 (((8 : Int32) * v1) + v2).toNatClampNeg) - v6).toInt = ((I5 b7 (((8 : Int32) * v1) + v2).toNatClampNeg).toInt - v6.toInt) := (i_sub rfl rfl (by omega) (by omega)))
      have w_I11 : WD Z I11 := by rw [eI11]; exact WD_putA w_I5 12 5 kv0 eb7 kb7 rfl rfl (by decide) trivial
      have f_I11 : FR [(12, 5)] Z I5 Z I11 := by rw [eI11]; exact FR_upA w_I5.2.1 kv0 eb7 kb7 rfl rfl List.mem_cons_self
      have q_I11 : FR Ws_X12_sells Z I0 Z I11 := q_I5.trans w0.1 w0.2.1 (f_I11.mono (by decide))
      intro b13 eb13
      obtain rfl : b7 = b13 := Option.some.inj (eb7.symm.trans eb13)
      have o14 : vp_in (((8 : Int32) * v1) + v3) 192 := vi_of (i_add (i_mul (show (8 : Int32).toInt = 8 from rfl) rfl (by omega) (by omega)) rfl (by omega) (by omega)) (by omega) (by omega)
      refine ⟨o14, ?_⟩
      have o15 : vp_in (((8 : Int32) * v1) + v3) 192 := vi_of (i_add (i_mul (show (8 : Int32).toInt = 8 from rfl) rfl (by omega) (by omega)) rfl (by omega) (by omega)) (by omega) (by omega)
      refine ⟨o15, ?_⟩
      intro I16 eI16
      try (have t17 : ((I11 b7 (((8 : Int32) * v1) + v3).toNatClampNeg) + v6).toInt = ((I11 b7 (((8 : Int32) * v1) + v3).toNatClampNeg).toInt + v6.toInt) := (i_add rfl rfl (by omega) (by omega)))
      have w_I16 : WD Z I16 := by rw [eI16]; exact WD_putA w_I11 12 5 kv0 eb7 kb7 rfl rfl (by decide) trivial
      have f_I16 : FR [(12, 5)] Z I11 Z I16 := by rw [eI16]; exact FR_upA w_I11.2.1 kv0 eb7 kb7 rfl rfl List.mem_cons_self
      have q_I16 : FR Ws_X12_sells Z I0 Z I16 := q_I11.trans w0.1 w0.2.1 (f_I16.mono (by decide))
      exact hQ v6 I16 L6 w_I16 q_I16 
    · skip
      first | (have t18 : ¬ ((192) ≤ v7.toInt) := (not_congr (i_le (show (192 : Int32).toInt = 192 from rfl) rfl)).mp c3) | (have t18 : ¬ ((192 : Int32).toInt ≤ v7.toInt) := (not_congr (i_le rfl rfl)).mp c3) | skip
      intro b19 eb19
      obtain rfl : b1 = b19 := Option.some.inj (eb1.symm.trans eb19)
      intro b20 eb20
      obtain ⟨x21, ex21, kb20, lb20⟩ := sh_f w_I.1 kv0 (j := 5) (k := 14) (m := 192) rfl
      cases eb20.symm.trans ex21
      have o22 : vp_in v7 192 := vi_of rfl (by omega) (by omega)
      refine ⟨o22, ?_⟩
      have o23 : vp_in v7 192 := vi_of rfl (by omega) (by omega)
      refine ⟨o23, ?_⟩
      intro I24 eI24
      have w_I24 : WD Z I24 := by rw [eI24]; exact WD_putA w_I 12 54 kv0 eb1 kb1 rfl rfl (by decide) trivial
      have f_I24 : FR [(12, 54)] Z I Z I24 := by rw [eI24]; exact FR_upA w_I.2.1 kv0 eb1 kb1 rfl rfl List.mem_cons_self
      have q_I24 : FR Ws_X12_sells Z I0 Z I24 := q_I.trans w0.1 w0.2.1 (f_I24.mono (by decide))
      intro x25 ex25
      have rx25 := i_rng x25
      first | (have tx25 : x25.toInt = v7.toInt + (1) := by (rw [ex25]; exact (i_add rfl (show (1 : Int32).toInt = 1 from rfl) (by omega) (by omega)))) | skip
      exact ih x25 I24 L w_I24 q_I24   (by omega)  (by omega)
set_option maxHeartbeats 4000000 in
set_option maxRecDepth 100000 in
theorem s_X12_sells {Z : jZ} {I : jI} {L : jL} (w_I : WD Z I) (v0 : Nat) (v1 : Int32) (v2 : Int32) (v3 : Int32) (v4 : Int32) (v5 : Int32) (kv0 : jk Z v0 12) {Q : Int32 → jI → jL → Prop} (hQ : ∀ (r : Int32) (I' : jI) (L' : jL), WD Z I' → FR Ws_X12_sells Z I Z I' → Q r I' L') : f_X12_sells v0 v1 v2 v3 v4 v5 Z I L Q := by
  unfold f_X12_sells
  have q_I : FR Ws_X12_sells Z I Z I := FR.rf
  have rv1 := i_rng v1
  have rv2 := i_rng v2
  have rv3 := i_rng v3
  have rv4 := i_rng v4
  have rv5 := i_rng v5
  intro I26 eI26
  have t27 : (0 : Int32).toInt = 0 := rfl
  have w_I26 : WD Z I26 := by rw [eI26]; exact WD_putF w_I 12 22 kv0 (by decide) (by decide) trivial
  have f_I26 : FR [(12, 22)] Z I Z I26 := by rw [eI26]; exact FR_putF kv0 (by decide) List.mem_cons_self
  have q_I26 : FR Ws_X12_sells Z I Z I26 := q_I.trans w_I.1 w_I.2.1 (f_I26.mono (by decide))
  first | (have u28 : (I26 v0 22).toInt = (0) := by (rw [eI26, show jpI I v0 22 (0 : Int32) v0 22 = (0 : Int32) from jpI_at] <;> exact (show (0 : Int32).toInt = 0 from rfl))) | skip
  refine s_X12_isStep w_I26 v0 v1 kv0   (fun r29 p30 => ?_)
  have rr29 := i_rng r29
  refine ⟨fun c31 => ?_, fun c31 => ?_⟩
  · skip
    first | (have t32 : r29.toInt = (0) := (i_eq rfl (show (0 : Int32).toInt = 0 from rfl)).mp c31) | (have t32 : r29.toInt = (0 : Int32).toInt := (i_eq rfl rfl).mp c31) | skip
    have t33 : (-1 : Int32).toInt = -1 := rfl
    exact hQ (-1 : Int32) I26 L w_I26 q_I26 
  · skip
    first | (have t34 : ¬ (r29.toInt = (0)) := (not_congr (i_eq rfl (show (0 : Int32).toInt = 0 from rfl))).mp c31) | (have t34 : ¬ (r29.toInt = (0 : Int32).toInt) := (not_congr (i_eq rfl rfl)).mp c31) | skip
    refine s_X12_isFamily w_I26 v2    (fun r35 p36 => ?_)
    have rr35 := i_rng r35
    refine ⟨fun c37 => ?_, fun c37 => ?_⟩
    · skip
      first | (have t38 : r35.toInt = (0) := (i_eq rfl (show (0 : Int32).toInt = 0 from rfl)).mp c37) | (have t38 : r35.toInt = (0 : Int32).toInt := (i_eq rfl rfl).mp c37) | skip
      have t39 : (-1 : Int32).toInt = -1 := rfl
      exact hQ (-1 : Int32) I26 L w_I26 q_I26 
    · skip
      first | (have t40 : ¬ (r35.toInt = (0)) := (not_congr (i_eq rfl (show (0 : Int32).toInt = 0 from rfl))).mp c37) | (have t40 : ¬ (r35.toInt = (0 : Int32).toInt) := (not_congr (i_eq rfl rfl)).mp c37) | skip
      refine s_X12_isFamily w_I26 v3    (fun r41 p42 => ?_)
      have rr41 := i_rng r41
      refine ⟨fun c43 => ?_, fun c43 => ?_⟩
      · skip
        first | (have t44 : r41.toInt = (0) := (i_eq rfl (show (0 : Int32).toInt = 0 from rfl)).mp c43) | (have t44 : r41.toInt = (0 : Int32).toInt := (i_eq rfl rfl).mp c43) | skip
        have t45 : (-1 : Int32).toInt = -1 := rfl
        exact hQ (-1 : Int32) I26 L w_I26 q_I26 
      · skip
        first | (have t46 : ¬ (r41.toInt = (0)) := (not_congr (i_eq rfl (show (0 : Int32).toInt = 0 from rfl))).mp c43) | (have t46 : ¬ (r41.toInt = (0 : Int32).toInt) := (not_congr (i_eq rfl rfl)).mp c43) | skip
        refine ⟨fun c47 => ?_, fun c47 => ?_⟩
        · skip
          first | (have t48 : v2.toInt = v3.toInt := (i_eq rfl rfl).mp c47) | (have t48 : v2.toInt = v3.toInt := (i_eq rfl rfl).mp c47) | skip
          have t49 : (-1 : Int32).toInt = -1 := rfl
          exact hQ (-1 : Int32) I26 L w_I26 q_I26 
        · skip
          first | (have t50 : ¬ (v2.toInt = v3.toInt) := (not_congr (i_eq rfl rfl)).mp c47) | (have t50 : ¬ (v2.toInt = v3.toInt) := (not_congr (i_eq rfl rfl)).mp c47) | skip
          have t51 : (1 : Int32).toInt = 1 := rfl
          have t52 : (9 : Int32).toInt = 9 := rfl
          refine s_X12_in w_I26 v5 (1 : Int32) (9 : Int32)    (fun r53 p54 => ?_)
          have rr53 := i_rng r53
          refine ⟨fun c55 => ?_, fun c55 => ?_⟩
          · skip
            first | (have t56 : r53.toInt = (0) := (i_eq rfl (show (0 : Int32).toInt = 0 from rfl)).mp c55) | (have t56 : r53.toInt = (0 : Int32).toInt := (i_eq rfl rfl).mp c55) | skip
            have t57 : (-1 : Int32).toInt = -1 := rfl
            exact hQ (-1 : Int32) I26 L w_I26 q_I26 
          · skip
            first | (have t58 : ¬ (r53.toInt = (0)) := (not_congr (i_eq rfl (show (0 : Int32).toInt = 0 from rfl))).mp c55) | (have t58 : ¬ (r53.toInt = (0 : Int32).toInt) := (not_congr (i_eq rfl rfl)).mp c55) | skip
            have t59 : (1 : Int32).toInt = 1 := rfl
            refine s_X12_in w_I26 v4 (1 : Int32) v5    (fun r60 p61 => ?_)
            have rr60 := i_rng r60
            refine ⟨fun c62 => ?_, fun c62 => ?_⟩
            · skip
              first | (have t63 : ¬ (r60.toInt = (0)) := (not_congr (i_eq rfl (show (0 : Int32).toInt = 0 from rfl))).mp c62) | (have t63 : ¬ (r60.toInt = (0 : Int32).toInt) := (not_congr (i_eq rfl rfl)).mp c62) | skip
              intro b64 eb64
              obtain ⟨x65, ex65, kb64, lb64⟩ := sh_f w_I26.1 kv0 (j := 5) (k := 14) (m := 192) rfl
              cases eb64.symm.trans ex65
              have o66 : vp_in (((8 : Int32) * v1) + v2) 192 := vi_of (i_add (i_mul (show (8 : Int32).toInt = 8 from rfl) rfl (by omega) (by omega)) rfl (by omega) (by omega)) (by omega) (by omega)
              refine ⟨o66, ?_⟩
              refine ⟨(not_congr (i_eq rfl (show (0 : Int32).toInt = 0 from rfl))).mpr (by omega), ?_⟩
              intro x67 ex67
              have rx67 := i_rng x67
              first | (have tx67 : x67.toInt = (((I26 b64 (((8 : Int32) * v1) + v2).toNatClampNeg) * v4) / v5).toInt := by (rw [ex67]; exact rfl)) | (have tx67 : x67.toInt = (((I26 b64 (((8 : Int32) * v1) + v2).toNatClampNeg) * v4) / v5).toInt := by rw [ex67])
              refine ⟨fun c68 => ?_, fun c68 => ?_⟩
              · skip
                first | (have t69 : ¬ (x67.toInt = (0)) := (not_congr (i_eq rfl (show (0 : Int32).toInt = 0 from rfl))).mp c68) | (have t69 : ¬ (x67.toInt = (0 : Int32).toInt) := (not_congr (i_eq rfl rfl)).mp c68) | skip
                have t70 : (0 : Int32).toInt = 0 := rfl
                exact ⟨(192 - (0 : Int32).toInt).toNat + 1, l_X12_sells_L85 w_I v0 v1 v2 v3 v4 v5 kv0 x67  hQ   _ (0 : Int32) I26 L w_I26 q_I26   (by omega)  (by omega)⟩
              · skip
                first | (have t71 : x67.toInt = (0) := (i_eq rfl (show (0 : Int32).toInt = 0 from rfl)).mp c68) | (have t71 : x67.toInt = (0 : Int32).toInt := (i_eq rfl rfl).mp c68) | skip
                have t72 : (-1 : Int32).toInt = -1 := rfl
                exact hQ (-1 : Int32) I26 L w_I26 q_I26 
            · skip
              first | (have t73 : r60.toInt = (0) := (i_eq rfl (show (0 : Int32).toInt = 0 from rfl)).mp c62) | (have t73 : r60.toInt = (0 : Int32).toInt := (i_eq rfl rfl).mp c62) | skip
              have t74 : (-1 : Int32).toInt = -1 := rfl
              exact hQ (-1 : Int32) I26 L w_I26 q_I26 
def Ws_X12_dies : List (Nat × Nat) := [(12, 5), (12, 22), (12, 52), (12, 53), (12, 54)]
set_option maxHeartbeats 4000000 in
set_option maxRecDepth 100000 in
theorem l_X12_dies_L115 {Z : jZ} {I0 : jI} {Q : Int32 → jI → jL → Prop} (w0 : WD Z I0) (v0 : Nat) (v1 : Int32) (v2 : Int32) (kv0 : jk Z v0 12) (v3 : Int32) (v4 : Int32) (v5 : Int32) (v6 : Int32) (hQ : ∀ (r : Int32) (I' : jI) (L' : jL), WD Z I' → FR Ws_X12_dies Z I0 Z I' → Q r I' L') {K73 : Nat → Int32 → Int32 → Int32 → Int32 → Int32 → jI → jL → Prop} {N73 : Int} (hK73 : ∀ (v4 : Int32) (v5 : Int32) (I : jI) (L : jL), WD Z I → FR Ws_X12_dies Z I0 Z I →   (0 ≤ v5.toInt ∧ v5.toInt ≤ 24 ∧ 0 ≤ v1.toInt ∧ v1.toInt ≤ 7 ∧ ¬ v3.toInt = 0) → 24 - v5.toInt < N73 → K73 v0 v1 v2 v3 v4 v5 I L) : ∀ (n : Nat) (v7 : Int32) (v8 : Int32) (I : jI) (L : jL), WD Z I → FR Ws_X12_dies Z I0 Z I →   (0 ≤ v5.toInt ∧ v5.toInt ≤ 23 ∧ 0 ≤ v1.toInt ∧ v1.toInt ≤ 7 ∧ ¬ v3.toInt = 0 ∧ 0 ≤ v8.toInt ∧ v8.toInt ≤ 8) → 24 - v5.toInt ≤ N73 → 8 - v8.toInt < (n : Int) → f_X12_dies_L115 K73 Z Q n v0 v1 v2 v3 v4 v5 v6 v7 v8 I L := by
  intro n
  induction n with
  | zero =>
    intro v7 v8 I L w_I q_I   li hm73 me
    exfalso
    omega
  | succ n ih =>
    intro v7 v8 I L w_I q_I   li hm73 me
    unfold f_X12_dies_L115
    have rv7 := i_rng v7
    have rv8 := i_rng v8
    have rv3 := i_rng v3
    have rv4 := i_rng v4
    have rv5 := i_rng v5
    have rv6 := i_rng v6
    have rv1 := i_rng v1
    have rv2 := i_rng v2
    refine ⟨fun c1 => ?_, fun c1 => ?_⟩
    · skip
      first | (have t2 : (8) ≤ v8.toInt := (i_le (show (8 : Int32).toInt = 8 from rfl) rfl).mp c1) | (have t2 : (8 : Int32).toInt ≤ v8.toInt := (i_le rfl rfl).mp c1) | skip
      intro x3 ex3
      have rx3 := i_rng x3
      first | (have tx3 : x3.toInt = (v4.toInt + v6.toInt) := by (rw [ex3]; exact (i_add rfl rfl (by omega) (by omega)))) | (have tx3 : x3.toInt = (v4 + v6).toInt := by rw [ex3])
      intro x4 ex4
      have rx4 := i_rng x4
      first | (have tx4 : x4.toInt = v5.toInt + (1) := by (rw [ex4]; exact (i_add rfl (show (1 : Int32).toInt = 1 from rfl) (by omega) (by omega)))) | skip
      exact hK73 x3 x4 I L w_I q_I   (by omega)  (by omega)
    · skip
      first | (have t5 : ¬ ((8) ≤ v8.toInt) := (not_congr (i_le (show (8 : Int32).toInt = 8 from rfl) rfl)).mp c1) | (have t5 : ¬ ((8 : Int32).toInt ≤ v8.toInt) := (not_congr (i_le rfl rfl)).mp c1) | skip
      refine s_X12_has w_I v2 v8    (fun r6  => ?_)
      have rr6 := i_rng r6
      refine ⟨fun c7 => ?_, fun c7 => ?_⟩
      · skip
        first | (have t8 : ¬ (r6.toInt = (0)) := (not_congr (i_eq rfl (show (0 : Int32).toInt = 0 from rfl))).mp c7) | (have t8 : ¬ (r6.toInt = (0 : Int32).toInt) := (not_congr (i_eq rfl rfl)).mp c7) | skip
        intro b9 eb9
        obtain ⟨x10, ex10, kb9, lb9⟩ := sh_f w_I.1 kv0 (j := 5) (k := 14) (m := 192) rfl
        cases eb9.symm.trans ex10
        have o11 : vp_in (((8 : Int32) * v5) + v8) 192 := vi_of (i_add (i_mul (show (8 : Int32).toInt = 8 from rfl) rfl (by omega) (by omega)) rfl (by omega) (by omega)) (by omega) (by omega)
        refine ⟨o11, ?_⟩
        refine ⟨(not_congr (i_eq rfl (show (0 : Int32).toInt = 0 from rfl))).mpr (by omega), ?_⟩
        refine ⟨(not_congr (i_eq rfl (show (0 : Int32).toInt = 0 from rfl))).mpr (by omega), ?_⟩
        refine ⟨fun c12 => ?_, fun c12 => ?_⟩
        · skip
          first | (have t13 : (v6 - v6 / v3 * v3).toInt ≤ v7.toInt := (i_le rfl rfl).mp c12) | (have t13 : (v6 - v6 / v3 * v3).toInt ≤ v7.toInt := (i_le rfl rfl).mp c12) | skip
          unfold f_X12_dies_b166
          have o14 : vp_in (((8 : Int32) * v5) + v8) (jlen Z b9) := vi_of (i_add (i_mul (show (8 : Int32).toInt = 8 from rfl) rfl (by omega) (by omega)) rfl (by omega) (by omega)) (by omega) (by omega)
          refine ⟨o14, ?_⟩
          intro I15 eI15
          try (have t16 : ((I b9 (((8 : Int32) * v5) + v8).toNatClampNeg) + ((v6 / v3) + (0 : Int32))).toInt = ((I b9 (((8 : Int32) * v5) + v8).toNatClampNeg).toInt + ((v6 / v3).toInt + (0))) := (i_add rfl (i_add rfl (show (0 : Int32).toInt = 0 from rfl) (by omega) (by omega)) (by omega) (by omega)))
          have w_I15 : WD Z I15 := by rw [eI15]; exact WD_putA w_I 12 5 kv0 eb9 kb9 rfl rfl (by decide) trivial
          have f_I15 : FR [(12, 5)] Z I Z I15 := by rw [eI15]; exact FR_upA w_I.2.1 kv0 eb9 kb9 rfl rfl List.mem_cons_self
          have q_I15 : FR Ws_X12_dies Z I0 Z I15 := q_I.trans w0.1 w0.2.1 (f_I15.mono (by decide))
          intro x17 ex17
          have rx17 := i_rng x17
          first | (have tx17 : x17.toInt = v7.toInt + (1) := by (rw [ex17]; exact (i_add rfl (show (1 : Int32).toInt = 1 from rfl) (by omega) (by omega)))) | skip
          unfold f_X12_dies_b172
          intro x18 ex18
          have rx18 := i_rng x18
          first | (have tx18 : x18.toInt = v8.toInt + (1) := by (rw [ex18]; exact (i_add rfl (show (1 : Int32).toInt = 1 from rfl) (by omega) (by omega)))) | skip
          exact ih x17 x18 I15 L w_I15 q_I15   (by omega) (by omega) (by omega)
        · skip
          first | (have t19 : ¬ ((v6 - v6 / v3 * v3).toInt ≤ v7.toInt) := (not_congr (i_le rfl rfl)).mp c12) | (have t19 : ¬ ((v6 - v6 / v3 * v3).toInt ≤ v7.toInt) := (not_congr (i_le rfl rfl)).mp c12) | skip
          unfold f_X12_dies_b166
          have o20 : vp_in (((8 : Int32) * v5) + v8) (jlen Z b9) := vi_of (i_add (i_mul (show (8 : Int32).toInt = 8 from rfl) rfl (by omega) (by omega)) rfl (by omega) (by omega)) (by omega) (by omega)
          refine ⟨o20, ?_⟩
          intro I21 eI21
          try (have t22 : ((I b9 (((8 : Int32) * v5) + v8).toNatClampNeg) + ((v6 / v3) + (1 : Int32))).toInt = ((I b9 (((8 : Int32) * v5) + v8).toNatClampNeg).toInt + ((v6 / v3).toInt + (1))) := (i_add rfl (i_add rfl (show (1 : Int32).toInt = 1 from rfl) (by omega) (by omega)) (by omega) (by omega)))
          have w_I21 : WD Z I21 := by rw [eI21]; exact WD_putA w_I 12 5 kv0 eb9 kb9 rfl rfl (by decide) trivial
          have f_I21 : FR [(12, 5)] Z I Z I21 := by rw [eI21]; exact FR_upA w_I.2.1 kv0 eb9 kb9 rfl rfl List.mem_cons_self
          have q_I21 : FR Ws_X12_dies Z I0 Z I21 := q_I.trans w0.1 w0.2.1 (f_I21.mono (by decide))
          intro x23 ex23
          have rx23 := i_rng x23
          first | (have tx23 : x23.toInt = v7.toInt + (1) := by (rw [ex23]; exact (i_add rfl (show (1 : Int32).toInt = 1 from rfl) (by omega) (by omega)))) | skip
          unfold f_X12_dies_b172
          intro x24 ex24
          have rx24 := i_rng x24
          first | (have tx24 : x24.toInt = v8.toInt + (1) := by (rw [ex24]; exact (i_add rfl (show (1 : Int32).toInt = 1 from rfl) (by omega) (by omega)))) | skip
          exact ih x23 x24 I21 L w_I21 q_I21   (by omega) (by omega) (by omega)
      · skip
        first | (have t25 : r6.toInt = (0) := (i_eq rfl (show (0 : Int32).toInt = 0 from rfl)).mp c7) | (have t25 : r6.toInt = (0 : Int32).toInt := (i_eq rfl rfl).mp c7) | skip
        unfold f_X12_dies_b172
        intro x26 ex26
        have rx26 := i_rng x26
        first | (have tx26 : x26.toInt = v8.toInt + (1) := by (rw [ex26]; exact (i_add rfl (show (1 : Int32).toInt = 1 from rfl) (by omega) (by omega)))) | skip
        exact ih v7 x26 I L w_I q_I   (by omega) (by omega) (by omega)
set_option maxHeartbeats 4000000 in
set_option maxRecDepth 100000 in
theorem l_X12_dies_L73 {Z : jZ} {I0 : jI} {Q : Int32 → jI → jL → Prop} (w0 : WD Z I0) (v0 : Nat) (v1 : Int32) (v2 : Int32) (kv0 : jk Z v0 12) (v3 : Int32) (hQ : ∀ (r : Int32) (I' : jI) (L' : jL), WD Z I' → FR Ws_X12_dies Z I0 Z I' → Q r I' L') : ∀ (n : Nat) (v4 : Int32) (v5 : Int32) (I : jI) (L : jL), WD Z I → FR Ws_X12_dies Z I0 Z I →   (0 ≤ v5.toInt ∧ v5.toInt ≤ 24 ∧ 0 ≤ v1.toInt ∧ v1.toInt ≤ 7 ∧ ¬ v3.toInt = 0) → 24 - v5.toInt < (n : Int) → f_X12_dies_L73  Z Q n v0 v1 v2 v3 v4 v5 I L := by
  intro n
  induction n with
  | zero =>
    intro v4 v5 I L w_I q_I   li  me
    exfalso
    omega
  | succ n ih =>
    intro v4 v5 I L w_I q_I   li  me
    unfold f_X12_dies_L73
    have rv4 := i_rng v4
    have rv5 := i_rng v5
    have rv3 := i_rng v3
    have rv1 := i_rng v1
    have rv2 := i_rng v2
    have t28 : 0 ≤ (I v0 0).toInt ∧ (I v0 0).toInt ≤ 24 := w_I.fld 12 0 kv0 (by decide)
    refine ⟨fun c29 => ?_, fun c29 => ?_⟩
    · skip
      first | (have t30 : (I v0 0).toInt ≤ v5.toInt := (i_le rfl rfl).mp c29) | (have t30 : (I v0 0).toInt ≤ v5.toInt := (i_le rfl rfl).mp c29) | skip
      refine ⟨fun c31 => ?_, fun c31 => ?_⟩
      · skip
        first | (have t32 : v4.toInt ≤ (0) := (i_le rfl (show (0 : Int32).toInt = 0 from rfl)).mp c31) | (have t32 : v4.toInt ≤ (0 : Int32).toInt := (i_le rfl rfl).mp c31) | skip
        exact hQ v4 I L w_I q_I 
      · skip
        first | (have t33 : ¬ (v4.toInt ≤ (0)) := (not_congr (i_le rfl (show (0 : Int32).toInt = 0 from rfl))).mp c31) | (have t33 : ¬ (v4.toInt ≤ (0 : Int32).toInt) := (not_congr (i_le rfl rfl)).mp c31) | skip
        refine s_X12_rememberParts w_I v0 kv0   (fun  I34 L35 w_I34 f_I34  => ?_)
        have q_I34 : FR Ws_X12_dies Z I0 Z I34 := q_I.trans w0.1 w0.2.1 (f_I34.mono (by decide))
        have u36 : (I34 v0 0).toInt = (I v0 0).toInt := by rw [f_I34.2.2.1 v0 12 0 kv0 (by decide) (by decide)]
        exact hQ v4 I34 L35 w_I34 q_I34 
    · skip
      first | (have t37 : ¬ ((I v0 0).toInt ≤ v5.toInt) := (not_congr (i_le rfl rfl)).mp c29) | (have t37 : ¬ ((I v0 0).toInt ≤ v5.toInt) := (not_congr (i_le rfl rfl)).mp c29) | skip
      intro b38 eb38
      obtain ⟨x39, ex39, kb38, lb38⟩ := sh_f w_I.1 kv0 (j := 5) (k := 14) (m := 192) rfl
      cases eb38.symm.trans ex39
      have o40 : vp_in (((8 : Int32) * v5) + v1) 192 := vi_of (i_add (i_mul (show (8 : Int32).toInt = 8 from rfl) rfl (by omega) (by omega)) rfl (by omega) (by omega)) (by omega) (by omega)
      refine ⟨o40, ?_⟩
      intro x41 ex41
      have rx41 := i_rng x41
      first | (have tx41 : x41.toInt = (I b38 (((8 : Int32) * v5) + v1).toNatClampNeg).toInt := by (rw [ex41]; exact rfl)) | (have tx41 : x41.toInt = (I b38 (((8 : Int32) * v5) + v1).toNatClampNeg).toInt := by rw [ex41])
      intro b42 eb42
      obtain rfl : b38 = b42 := Option.some.inj (eb38.symm.trans eb42)
      have o43 : vp_in (((8 : Int32) * v5) + v1) 192 := vi_of (i_add (i_mul (show (8 : Int32).toInt = 8 from rfl) rfl (by omega) (by omega)) rfl (by omega) (by omega)) (by omega) (by omega)
      refine ⟨o43, ?_⟩
      intro I44 eI44
      have t45 : (0 : Int32).toInt = 0 := rfl
      have w_I44 : WD Z I44 := by rw [eI44]; exact WD_putA w_I 12 5 kv0 eb38 kb38 rfl rfl (by decide) trivial
      have f_I44 : FR [(12, 5)] Z I Z I44 := by rw [eI44]; exact FR_upA w_I.2.1 kv0 eb38 kb38 rfl rfl List.mem_cons_self
      have q_I44 : FR Ws_X12_dies Z I0 Z I44 := q_I.trans w0.1 w0.2.1 (f_I44.mono (by decide))
      have u46 : (I44 v0 0).toInt = (I v0 0).toInt := by rw [f_I44.2.2.1 v0 12 0 kv0 (by decide) (by decide)]
      have t47 : (0 : Int32).toInt = 0 := rfl
      have t48 : (0 : Int32).toInt = 0 := rfl
      exact ⟨(8 - (0 : Int32).toInt).toNat + 1, l_X12_dies_L115 w0 v0 v1 v2 kv0 v3 v4 v5 x41  hQ ih  _ (0 : Int32) (0 : Int32) I44 L w_I44 q_I44   (by omega) (by omega) (by omega)⟩
set_option maxHeartbeats 4000000 in
set_option maxRecDepth 100000 in
theorem l_X12_dies_L35 {Z : jZ} {I0 : jI} {Q : Int32 → jI → jL → Prop} (w0 : WD Z I0) (v0 : Nat) (v1 : Int32) (v2 : Int32) (kv0 : jk Z v0 12) (hQ : ∀ (r : Int32) (I' : jI) (L' : jL), WD Z I' → FR Ws_X12_dies Z I0 Z I' → Q r I' L') : ∀ (n : Nat) (v3 : Int32) (I : jI) (L : jL), WD Z I → FR Ws_X12_dies Z I0 Z I →   (0 ≤ v3.toInt ∧ v3.toInt ≤ 192 ∧ 0 ≤ v1.toInt ∧ v1.toInt ≤ 7 ∧ 1 ≤ v2.toInt ∧ v2.toInt ≤ 255) → 192 - v3.toInt < (n : Int) → f_X12_dies_L35  Z Q n v0 v1 v2 v3 I L := by
  intro n
  induction n with
  | zero =>
    intro v3 I L w_I q_I   li  me
    exfalso
    omega
  | succ n ih =>
    intro v3 I L w_I q_I   li  me
    unfold f_X12_dies_L35
    have rv3 := i_rng v3
    have rv1 := i_rng v1
    have rv2 := i_rng v2
    intro b49 eb49
    obtain ⟨x50, ex50, kb49, lb49⟩ := sh_f w_I.1 kv0 (j := 54) (k := 14) (m := 192) rfl
    cases eb49.symm.trans ex50
    refine ⟨fun c51 => ?_, fun c51 => ?_⟩
    · skip
      first | (have t52 : (192) ≤ v3.toInt := (i_le (show (192 : Int32).toInt = 192 from rfl) rfl).mp c51) | (have t52 : (192 : Int32).toInt ≤ v3.toInt := (i_le rfl rfl).mp c51) | skip
      refine s_J6_bitCount_0f7a4 w_I v2    (fun r53 p54 => ?_)
      have rr53 := i_rng r53
      have t55 : (0 : Int32).toInt = 0 := rfl
      have t56 : (0 : Int32).toInt = 0 := rfl
      exact ⟨(24 - (0 : Int32).toInt).toNat + 1, l_X12_dies_L73 w0 v0 v1 v2 kv0 r53  hQ   _ (0 : Int32) (0 : Int32) I L w_I q_I   (by omega)  (by omega)⟩
    · skip
      first | (have t57 : ¬ ((192) ≤ v3.toInt) := (not_congr (i_le (show (192 : Int32).toInt = 192 from rfl) rfl)).mp c51) | (have t57 : ¬ ((192 : Int32).toInt ≤ v3.toInt) := (not_congr (i_le rfl rfl)).mp c51) | skip
      intro b58 eb58
      obtain rfl : b49 = b58 := Option.some.inj (eb49.symm.trans eb58)
      intro b59 eb59
      obtain ⟨x60, ex60, kb59, lb59⟩ := sh_f w_I.1 kv0 (j := 5) (k := 14) (m := 192) rfl
      cases eb59.symm.trans ex60
      have o61 : vp_in v3 192 := vi_of rfl (by omega) (by omega)
      refine ⟨o61, ?_⟩
      have o62 : vp_in v3 192 := vi_of rfl (by omega) (by omega)
      refine ⟨o62, ?_⟩
      intro I63 eI63
      have w_I63 : WD Z I63 := by rw [eI63]; exact WD_putA w_I 12 54 kv0 eb49 kb49 rfl rfl (by decide) trivial
      have f_I63 : FR [(12, 54)] Z I Z I63 := by rw [eI63]; exact FR_upA w_I.2.1 kv0 eb49 kb49 rfl rfl List.mem_cons_self
      have q_I63 : FR Ws_X12_dies Z I0 Z I63 := q_I.trans w0.1 w0.2.1 (f_I63.mono (by decide))
      intro x64 ex64
      have rx64 := i_rng x64
      first | (have tx64 : x64.toInt = v3.toInt + (1) := by (rw [ex64]; exact (i_add rfl (show (1 : Int32).toInt = 1 from rfl) (by omega) (by omega)))) | skip
      exact ih x64 I63 L w_I63 q_I63   (by omega)  (by omega)
set_option maxHeartbeats 4000000 in
set_option maxRecDepth 100000 in
theorem s_X12_dies {Z : jZ} {I : jI} {L : jL} (w_I : WD Z I) (v0 : Nat) (v1 : Int32) (v2 : Int32) (kv0 : jk Z v0 12) {Q : Int32 → jI → jL → Prop} (hQ : ∀ (r : Int32) (I' : jI) (L' : jL), WD Z I' → FR Ws_X12_dies Z I Z I' → Q r I' L') : f_X12_dies v0 v1 v2 Z I L Q := by
  unfold f_X12_dies
  have q_I : FR Ws_X12_dies Z I Z I := FR.rf
  have rv1 := i_rng v1
  have rv2 := i_rng v2
  intro I65 eI65
  have t66 : (0 : Int32).toInt = 0 := rfl
  have w_I65 : WD Z I65 := by rw [eI65]; exact WD_putF w_I 12 22 kv0 (by decide) (by decide) trivial
  have f_I65 : FR [(12, 22)] Z I Z I65 := by rw [eI65]; exact FR_putF kv0 (by decide) List.mem_cons_self
  have q_I65 : FR Ws_X12_dies Z I Z I65 := q_I.trans w_I.1 w_I.2.1 (f_I65.mono (by decide))
  first | (have u67 : (I65 v0 22).toInt = (0) := by (rw [eI65, show jpI I v0 22 (0 : Int32) v0 22 = (0 : Int32) from jpI_at] <;> exact (show (0 : Int32).toInt = 0 from rfl))) | skip
  refine s_X12_isFamily w_I65 v1    (fun r68 p69 => ?_)
  have rr68 := i_rng r68
  refine ⟨fun c70 => ?_, fun c70 => ?_⟩
  · skip
    first | (have t71 : r68.toInt = (0) := (i_eq rfl (show (0 : Int32).toInt = 0 from rfl)).mp c70) | (have t71 : r68.toInt = (0 : Int32).toInt := (i_eq rfl rfl).mp c70) | skip
    have t72 : (-1 : Int32).toInt = -1 := rfl
    exact hQ (-1 : Int32) I65 L w_I65 q_I65 
  · skip
    first | (have t73 : ¬ (r68.toInt = (0)) := (not_congr (i_eq rfl (show (0 : Int32).toInt = 0 from rfl))).mp c70) | (have t73 : ¬ (r68.toInt = (0 : Int32).toInt) := (not_congr (i_eq rfl rfl)).mp c70) | skip
    have t74 : (1 : Int32).toInt = 1 := rfl
    have t75 : (255 : Int32).toInt = 255 := rfl
    refine s_X12_in w_I65 v2 (1 : Int32) (255 : Int32)    (fun r76 p77 => ?_)
    have rr76 := i_rng r76
    refine ⟨fun c78 => ?_, fun c78 => ?_⟩
    · skip
      first | (have t79 : r76.toInt = (0) := (i_eq rfl (show (0 : Int32).toInt = 0 from rfl)).mp c78) | (have t79 : r76.toInt = (0 : Int32).toInt := (i_eq rfl rfl).mp c78) | skip
      have t80 : (-1 : Int32).toInt = -1 := rfl
      exact hQ (-1 : Int32) I65 L w_I65 q_I65 
    · skip
      first | (have t81 : ¬ (r76.toInt = (0)) := (not_congr (i_eq rfl (show (0 : Int32).toInt = 0 from rfl))).mp c78) | (have t81 : ¬ (r76.toInt = (0 : Int32).toInt) := (not_congr (i_eq rfl rfl)).mp c78) | skip
      refine s_X12_has w_I65 v2 v1    (fun r82  => ?_)
      have rr82 := i_rng r82
      refine ⟨fun c83 => ?_, fun c83 => ?_⟩
      · skip
        first | (have t84 : r82.toInt = (0) := (i_eq rfl (show (0 : Int32).toInt = 0 from rfl)).mp c83) | (have t84 : r82.toInt = (0 : Int32).toInt := (i_eq rfl rfl).mp c83) | skip
        have t85 : (0 : Int32).toInt = 0 := rfl
        exact ⟨(192 - (0 : Int32).toInt).toNat + 1, l_X12_dies_L35 w_I v0 v1 v2 kv0   hQ   _ (0 : Int32) I65 L w_I65 q_I65   (by omega)  (by omega)⟩
      · skip
        first | (have t86 : ¬ (r82.toInt = (0)) := (not_congr (i_eq rfl (show (0 : Int32).toInt = 0 from rfl))).mp c83) | (have t86 : ¬ (r82.toInt = (0 : Int32).toInt) := (not_congr (i_eq rfl rfl)).mp c83) | skip
        have t87 : (-1 : Int32).toInt = -1 := rfl
        exact hQ (-1 : Int32) I65 L w_I65 q_I65 
def Ws_X12_undo : List (Nat × Nat) := [(12, 5), (12, 22), (12, 52)]
set_option maxHeartbeats 4000000 in
set_option maxRecDepth 100000 in
theorem l_X12_undo_L26 {Z : jZ} {I0 : jI} {Q : Int32 → jI → jL → Prop} (w0 : WD Z I0) (v0 : Nat) (kv0 : jk Z v0 12) (hQ : ∀ (r : Int32) (I' : jI) (L' : jL), WD Z I' → FR Ws_X12_undo Z I0 Z I' → Q r I' L') : ∀ (n : Nat) (v1 : Int32) (I : jI) (L : jL), WD Z I → FR Ws_X12_undo Z I0 Z I →   (0 ≤ v1.toInt ∧ v1.toInt ≤ 192 ∧ 0 ≤ (I v0 52).toInt ∧ (I v0 52).toInt ≤ 7) → 192 - v1.toInt < (n : Int) → f_X12_undo_L26  Z Q n v0 v1 I L := by
  intro n
  induction n with
  | zero =>
    intro v1 I L w_I q_I   li  me
    exfalso
    omega
  | succ n ih =>
    intro v1 I L w_I q_I   li  me
    unfold f_X12_undo_L26
    have rv1 := i_rng v1
    refine ⟨fun c1 => ?_, fun c1 => ?_⟩
    · skip
      first | (have t2 : (192) ≤ v1.toInt := (i_le (show (192 : Int32).toInt = 192 from rfl) rfl).mp c1) | (have t2 : (192 : Int32).toInt ≤ v1.toInt := (i_le rfl rfl).mp c1) | skip
      have t4 : 0 ≤ (I v0 52).toInt ∧ (I v0 52).toInt ≤ 8 := w_I.fld 12 52 kv0 (by decide)
      exact hQ (I v0 52) I L w_I q_I 
    · skip
      first | (have t5 : ¬ ((192) ≤ v1.toInt) := (not_congr (i_le (show (192 : Int32).toInt = 192 from rfl) rfl)).mp c1) | (have t5 : ¬ ((192 : Int32).toInt ≤ v1.toInt) := (not_congr (i_le rfl rfl)).mp c1) | skip
      intro b6 eb6
      obtain ⟨x7, ex7, kb6, lb6⟩ := sh_f w_I.1 kv0 (j := 5) (k := 14) (m := 192) rfl
      cases eb6.symm.trans ex7
      intro b8 eb8
      obtain ⟨x9, ex9, kb8, lb8⟩ := sh_f w_I.1 kv0 (j := 53) (k := 14) (m := 1536) rfl
      cases eb8.symm.trans ex9
      have t11 : 0 ≤ (I v0 52).toInt ∧ (I v0 52).toInt ≤ 8 := w_I.fld 12 52 kv0 (by decide)
      have o12 : vp_in (((192 : Int32) * (I v0 52)) + v1) 1536 := vi_of (i_add (i_mul (show (192 : Int32).toInt = 192 from rfl) rfl (by omega) (by omega)) rfl (by omega) (by omega)) (by omega) (by omega)
      refine ⟨o12, ?_⟩
      have o13 : vp_in v1 192 := vi_of rfl (by omega) (by omega)
      refine ⟨o13, ?_⟩
      intro I14 eI14
      have w_I14 : WD Z I14 := by rw [eI14]; exact WD_putA w_I 12 5 kv0 eb6 kb6 rfl rfl (by decide) trivial
      have f_I14 : FR [(12, 5)] Z I Z I14 := by rw [eI14]; exact FR_upA w_I.2.1 kv0 eb6 kb6 rfl rfl List.mem_cons_self
      have q_I14 : FR Ws_X12_undo Z I0 Z I14 := q_I.trans w0.1 w0.2.1 (f_I14.mono (by decide))
      have u15 : (I14 v0 52).toInt = (I v0 52).toInt := by rw [f_I14.2.2.1 v0 12 52 kv0 (by decide) (by decide)]
      intro x16 ex16
      have rx16 := i_rng x16
      first | (have tx16 : x16.toInt = v1.toInt + (1) := by (rw [ex16]; exact (i_add rfl (show (1 : Int32).toInt = 1 from rfl) (by omega) (by omega)))) | skip
      exact ih x16 I14 L w_I14 q_I14   (by omega)  (by omega)
set_option maxHeartbeats 4000000 in
set_option maxRecDepth 100000 in
theorem s_X12_undo {Z : jZ} {I : jI} {L : jL} (w_I : WD Z I) (v0 : Nat) (kv0 : jk Z v0 12) {Q : Int32 → jI → jL → Prop} (hQ : ∀ (r : Int32) (I' : jI) (L' : jL), WD Z I' → FR Ws_X12_undo Z I Z I' → Q r I' L') : f_X12_undo v0 Z I L Q := by
  unfold f_X12_undo
  have q_I : FR Ws_X12_undo Z I Z I := FR.rf
  intro I17 eI17
  have t18 : (0 : Int32).toInt = 0 := rfl
  have w_I17 : WD Z I17 := by rw [eI17]; exact WD_putF w_I 12 22 kv0 (by decide) (by decide) trivial
  have f_I17 : FR [(12, 22)] Z I Z I17 := by rw [eI17]; exact FR_putF kv0 (by decide) List.mem_cons_self
  have q_I17 : FR Ws_X12_undo Z I Z I17 := q_I.trans w_I.1 w_I.2.1 (f_I17.mono (by decide))
  first | (have u19 : (I17 v0 22).toInt = (0) := by (rw [eI17, show jpI I v0 22 (0 : Int32) v0 22 = (0 : Int32) from jpI_at] <;> exact (show (0 : Int32).toInt = 0 from rfl))) | skip
  have t21 : 0 ≤ (I17 v0 52).toInt ∧ (I17 v0 52).toInt ≤ 8 := w_I17.fld 12 52 kv0 (by decide)
  refine ⟨fun c22 => ?_, fun c22 => ?_⟩
  · skip
    first | (have t23 : ¬ ((I17 v0 52).toInt = (0)) := (not_congr (i_eq rfl (show (0 : Int32).toInt = 0 from rfl))).mp c22) | (have t23 : ¬ ((I17 v0 52).toInt = (0 : Int32).toInt) := (not_congr (i_eq rfl rfl)).mp c22) | skip
    have t25 : 0 ≤ (I17 v0 52).toInt ∧ (I17 v0 52).toInt ≤ 8 := w_I17.fld 12 52 kv0 (by decide)
    intro I26 eI26
    try (have t27 : ((I17 v0 52) - (1 : Int32)).toInt = ((I17 v0 52).toInt - (1)) := (i_sub rfl (show (1 : Int32).toInt = 1 from rfl) (by omega) (by omega)))
    have w_I26 : WD Z I26 := by rw [eI26]; exact WD_putF w_I17 12 52 kv0 (by decide) (by decide) (by constructor <;> omega)
    have f_I26 : FR [(12, 52)] Z I17 Z I26 := by rw [eI26]; exact FR_putF kv0 (by decide) List.mem_cons_self
    have q_I26 : FR Ws_X12_undo Z I Z I26 := q_I17.trans w_I.1 w_I.2.1 (f_I26.mono (by decide))
    have u28 : (I26 v0 22).toInt = (I17 v0 22).toInt := by rw [f_I26.2.2.1 v0 12 22 kv0 (by decide) (by decide)]
    first | (have u29 : (I26 v0 52).toInt = ((I17 v0 52).toInt - (1)) := by (rw [eI26, show jpI I17 v0 52 ((I17 v0 52) - (1 : Int32)) v0 52 = ((I17 v0 52) - (1 : Int32)) from jpI_at] <;> exact (i_sub rfl (show (1 : Int32).toInt = 1 from rfl) (by omega) (by omega)))) | skip
    have t30 : (0 : Int32).toInt = 0 := rfl
    exact ⟨(192 - (0 : Int32).toInt).toNat + 1, l_X12_undo_L26 w_I v0 kv0   hQ   _ (0 : Int32) I26 L w_I26 q_I26   (by omega)  (by omega)⟩
  · skip
    first | (have t31 : (I17 v0 52).toInt = (0) := (i_eq rfl (show (0 : Int32).toInt = 0 from rfl)).mp c22) | (have t31 : (I17 v0 52).toInt = (0 : Int32).toInt := (i_eq rfl rfl).mp c22) | skip
    have t32 : (-1 : Int32).toInt = -1 := rfl
    exact hQ (-1 : Int32) I17 L w_I17 q_I17 
def Ws_X12_rail : List (Nat × Nat) := [(12, 21), (12, 22), (12, 35)]
set_option maxHeartbeats 4000000 in
set_option maxRecDepth 100000 in
theorem l_X12_rail_L40 {Z : jZ} {I0 : jI} {Q : Int32 → jI → jL → Prop} (w0 : WD Z I0) (v0 : Nat) (v1 : Int32) (kv0 : jk Z v0 12) (hQ : ∀ (r : Int32) (I' : jI) (L' : jL), WD Z I' → FR Ws_X12_rail Z I0 Z I' → Q r I' L') : ∀ (n : Nat) (v2 : Int32) (v3 : Int32) (I : jI) (L : jL), WD Z I → FR Ws_X12_rail Z I0 Z I →   (0 ≤ v3.toInt ∧ v3.toInt ≤ 8 ∧ 0 ≤ (I v0 21).toInt ∧ (I v0 21).toInt ≤ v3.toInt) → 8 - v3.toInt < (n : Int) → f_X12_rail_L40  Z Q n v0 v2 v3 I L := by
  intro n
  induction n with
  | zero =>
    intro v2 v3 I L w_I q_I   li  me
    exfalso
    omega
  | succ n ih =>
    intro v2 v3 I L w_I q_I   li  me
    unfold f_X12_rail_L40
    have rv2 := i_rng v2
    have rv3 := i_rng v3
    have rv1 := i_rng v1
    refine ⟨fun c1 => ?_, fun c1 => ?_⟩
    · skip
      first | (have t2 : (8) ≤ v3.toInt := (i_le (show (8 : Int32).toInt = 8 from rfl) rfl).mp c1) | (have t2 : (8 : Int32).toInt ≤ v3.toInt := (i_le rfl rfl).mp c1) | skip
      exact hQ v2 I L w_I q_I 
    · skip
      first | (have t3 : ¬ ((8) ≤ v3.toInt) := (not_congr (i_le (show (8 : Int32).toInt = 8 from rfl) rfl)).mp c1) | (have t3 : ¬ ((8 : Int32).toInt ≤ v3.toInt) := (not_congr (i_le rfl rfl)).mp c1) | skip
      intro b4 eb4
      obtain ⟨x5, ex5, kb4, lb4⟩ := sh_f w_I.1 kv0 (j := 35) (k := 14) (m := 8) rfl
      cases eb4.symm.trans ex5
      have o6 : vp_in v3 8 := vi_of rfl (by omega) (by omega)
      refine ⟨o6, ?_⟩
      refine s_X12_tell w_I v0 ((I b4 v3.toNatClampNeg).toInt64) kv0  (by omega) (fun  I8 L9 w_I8 f_I8 p7 => ?_)
      have q_I8 : FR Ws_X12_rail Z I0 Z I8 := q_I.trans w0.1 w0.2.1 (f_I8.mono (by decide))
      intro b10 eb10
      obtain rfl : b4 = b10 := Option.some.inj (eb4.symm.trans eb10)
      have o11 : vp_in v3 8 := vi_of rfl (by omega) (by omega)
      refine ⟨o11, ?_⟩
      refine ⟨fun c12 => ?_, fun c12 => ?_⟩
      · skip
        first | (have t13 : (I8 b4 v3.toNatClampNeg).toInt ≤ (0) := (i_le rfl (show (0 : Int32).toInt = 0 from rfl)).mp c12) | (have t13 : (I8 b4 v3.toNatClampNeg).toInt ≤ (0 : Int32).toInt := (i_le rfl rfl).mp c12) | skip
        unfold f_X12_rail_b72
        intro x14 ex14
        have rx14 := i_rng x14
        first | (have tx14 : x14.toInt = (v2.toInt + (0)) := by (rw [ex14]; exact (i_add rfl (show (0 : Int32).toInt = 0 from rfl) (by omega) (by omega)))) | (have tx14 : x14.toInt = (v2 + (0 : Int32)).toInt := by rw [ex14])
        intro x15 ex15
        have rx15 := i_rng x15
        first | (have tx15 : x15.toInt = v3.toInt + (1) := by (rw [ex15]; exact (i_add rfl (show (1 : Int32).toInt = 1 from rfl) (by omega) (by omega)))) | skip
        exact ih x14 x15 I8 L9 w_I8 q_I8   (by omega)  (by omega)
      · skip
        first | (have t16 : ¬ ((I8 b4 v3.toNatClampNeg).toInt ≤ (0)) := (not_congr (i_le rfl (show (0 : Int32).toInt = 0 from rfl))).mp c12) | (have t16 : ¬ ((I8 b4 v3.toNatClampNeg).toInt ≤ (0 : Int32).toInt) := (not_congr (i_le rfl rfl)).mp c12) | skip
        unfold f_X12_rail_b72
        intro x17 ex17
        have rx17 := i_rng x17
        first | (have tx17 : x17.toInt = (v2.toInt + (1)) := by (rw [ex17]; exact (i_add rfl (show (1 : Int32).toInt = 1 from rfl) (by omega) (by omega)))) | (have tx17 : x17.toInt = (v2 + (1 : Int32)).toInt := by rw [ex17])
        intro x18 ex18
        have rx18 := i_rng x18
        first | (have tx18 : x18.toInt = v3.toInt + (1) := by (rw [ex18]; exact (i_add rfl (show (1 : Int32).toInt = 1 from rfl) (by omega) (by omega)))) | skip
        exact ih x17 x18 I8 L9 w_I8 q_I8   (by omega)  (by omega)
set_option maxHeartbeats 4000000 in
set_option maxRecDepth 100000 in
theorem s_X12_rail {Z : jZ} {I : jI} {L : jL} (w_I : WD Z I) (v0 : Nat) (v1 : Int32) (kv0 : jk Z v0 12) {Q : Int32 → jI → jL → Prop} (hQ : ∀ (r : Int32) (I' : jI) (L' : jL), WD Z I' → FR Ws_X12_rail Z I Z I' → Q r I' L') : f_X12_rail v0 v1 Z I L Q := by
  unfold f_X12_rail
  have q_I : FR Ws_X12_rail Z I Z I := FR.rf
  have rv1 := i_rng v1
  intro I19 eI19
  have t20 : (0 : Int32).toInt = 0 := rfl
  have w_I19 : WD Z I19 := by rw [eI19]; exact WD_putF w_I 12 22 kv0 (by decide) (by decide) trivial
  have f_I19 : FR [(12, 22)] Z I Z I19 := by rw [eI19]; exact FR_putF kv0 (by decide) List.mem_cons_self
  have q_I19 : FR Ws_X12_rail Z I Z I19 := q_I.trans w_I.1 w_I.2.1 (f_I19.mono (by decide))
  first | (have u21 : (I19 v0 22).toInt = (0) := by (rw [eI19, show jpI I v0 22 (0 : Int32) v0 22 = (0 : Int32) from jpI_at] <;> exact (show (0 : Int32).toInt = 0 from rfl))) | skip
  have t23 : 0 ≤ (I19 v0 0).toInt ∧ (I19 v0 0).toInt ≤ 24 := w_I19.fld 12 0 kv0 (by decide)
  refine ⟨fun c24 => ?_, fun c24 => ?_⟩
  · skip
    first | (have t25 : (I19 v0 0).toInt = (0) := (i_eq rfl (show (0 : Int32).toInt = 0 from rfl)).mp c24) | (have t25 : (I19 v0 0).toInt = (0 : Int32).toInt := (i_eq rfl rfl).mp c24) | skip
    have t26 : (-1 : Int32).toInt = -1 := rfl
    exact hQ (-1 : Int32) I19 L w_I19 q_I19 
  · skip
    first | (have t27 : ¬ ((I19 v0 0).toInt = (0)) := (not_congr (i_eq rfl (show (0 : Int32).toInt = 0 from rfl))).mp c24) | (have t27 : ¬ ((I19 v0 0).toInt = (0 : Int32).toInt) := (not_congr (i_eq rfl rfl)).mp c24) | skip
    have t28 : (0 : Int32).toInt = 0 := rfl
    have t29 : (9999 : Int32).toInt = 9999 := rfl
    refine s_X12_in w_I19 v1 (0 : Int32) (9999 : Int32)    (fun r30 p31 => ?_)
    have rr30 := i_rng r30
    refine ⟨fun c32 => ?_, fun c32 => ?_⟩
    · skip
      first | (have t33 : ¬ (r30.toInt = (0)) := (not_congr (i_eq rfl (show (0 : Int32).toInt = 0 from rfl))).mp c32) | (have t33 : ¬ (r30.toInt = (0 : Int32).toInt) := (not_congr (i_eq rfl rfl)).mp c32) | skip
      have t34 : (-1 : Int32).toInt = -1 := rfl
      refine s_X12_divide w_I19 v0 v1 (-1 : Int32) kv0  (by omega) (fun  I35 L36 w_I35 f_I35  => ?_)
      have q_I35 : FR Ws_X12_rail Z I Z I35 := q_I19.trans w_I.1 w_I.2.1 (f_I35.mono (by decide))
      have u37 : (I35 v0 22).toInt = (I19 v0 22).toInt := by rw [f_I35.2.2.1 v0 12 22 kv0 (by decide) (by decide)]
      have u38 : (I35 v0 0).toInt = (I19 v0 0).toInt := by rw [f_I35.2.2.1 v0 12 0 kv0 (by decide) (by decide)]
      intro I39 eI39
      have t40 : (0 : Int32).toInt = 0 := rfl
      have w_I39 : WD Z I39 := by rw [eI39]; exact WD_putF w_I35 12 21 kv0 (by decide) (by decide) (by constructor <;> omega)
      have f_I39 : FR [(12, 21)] Z I35 Z I39 := by rw [eI39]; exact FR_putF kv0 (by decide) List.mem_cons_self
      have q_I39 : FR Ws_X12_rail Z I Z I39 := q_I35.trans w_I.1 w_I.2.1 (f_I39.mono (by decide))
      have u41 : (I39 v0 22).toInt = (I35 v0 22).toInt := by rw [f_I39.2.2.1 v0 12 22 kv0 (by decide) (by decide)]
      have u42 : (I39 v0 0).toInt = (I35 v0 0).toInt := by rw [f_I39.2.2.1 v0 12 0 kv0 (by decide) (by decide)]
      first | (have u43 : (I39 v0 21).toInt = (0) := by (rw [eI39, show jpI I35 v0 21 (0 : Int32) v0 21 = (0 : Int32) from jpI_at] <;> exact (show (0 : Int32).toInt = 0 from rfl))) | skip
      have t44 : (0 : Int32).toInt = 0 := rfl
      have t45 : (0 : Int32).toInt = 0 := rfl
      exact ⟨(8 - (0 : Int32).toInt).toNat + 1, l_X12_rail_L40 w_I v0 v1 kv0   hQ   _ (0 : Int32) (0 : Int32) I39 L36 w_I39 q_I39   (by omega)  (by omega)⟩
    · skip
      first | (have t46 : r30.toInt = (0) := (i_eq rfl (show (0 : Int32).toInt = 0 from rfl)).mp c32) | (have t46 : r30.toInt = (0 : Int32).toInt := (i_eq rfl rfl).mp c32) | skip
      have t47 : (-1 : Int32).toInt = -1 := rfl
      exact hQ (-1 : Int32) I19 L w_I19 q_I19 
def Ws_X12_rules : List (Nat × Nat) := [(12, 21), (12, 22)]
set_option maxHeartbeats 4000000 in
set_option maxRecDepth 100000 in
theorem l_X12_rules_L105 {Z : jZ} {I0 : jI} {Q : Int32 → jI → jL → Prop} (w0 : WD Z I0) (v0 : Nat) (v1 : Int32) (v2 : Int32) (kv0 : jk Z v0 12) (v3 : Int32) (v4 : Int32) (hQ : ∀ (r : Int32) (I' : jI) (L' : jL), WD Z I' → FR Ws_X12_rules Z I0 Z I' → Q r I' L') {K40 : Nat → Int32 → Int32 → Int32 → Int32 → jI → jL → Prop} {N40 : Int} (hK40 : ∀ (v3 : Int32) (v4 : Int32) (I : jI) (L : jL), WD Z I → FR Ws_X12_rules Z I0 Z I →   (1 ≤ v4.toInt ∧ v4.toInt ≤ 256 ∧ (¬ v1.toInt = 0 ∨ (0 ≤ v2.toInt ∧ v2.toInt ≤ 23))) → 256 - v4.toInt < N40 → K40 v0 v1 v2 v3 v4 I L) : ∀ (n : Nat) (v5 : Int32) (v6 : Int32) (I : jI) (L : jL), WD Z I → FR Ws_X12_rules Z I0 Z I →   (1 ≤ v4.toInt ∧ v4.toInt ≤ 255 ∧ (¬ v1.toInt = 0 ∨ (0 ≤ v2.toInt ∧ v2.toInt ≤ 23)) ∧ 0 ≤ v6.toInt ∧ v6.toInt ≤ 24) → 256 - v4.toInt ≤ N40 → 24 - v6.toInt < (n : Int) → f_X12_rules_L105 K40 Z Q n v0 v1 v2 v3 v4 v5 v6 I L := by
  intro n
  induction n with
  | zero =>
    intro v5 v6 I L w_I q_I   li hm40 me
    exfalso
    omega
  | succ n ih =>
    intro v5 v6 I L w_I q_I   li hm40 me
    unfold f_X12_rules_L105
    have rv5 := i_rng v5
    have rv6 := i_rng v6
    have rv3 := i_rng v3
    have rv4 := i_rng v4
    have rv1 := i_rng v1
    have rv2 := i_rng v2
    have t2 : 0 ≤ (I v0 0).toInt ∧ (I v0 0).toInt ≤ 24 := w_I.fld 12 0 kv0 (by decide)
    refine ⟨fun c3 => ?_, fun c3 => ?_⟩
    · skip
      first | (have t4 : (I v0 0).toInt ≤ v6.toInt := (i_le rfl rfl).mp c3) | (have t4 : (I v0 0).toInt ≤ v6.toInt := (i_le rfl rfl).mp c3) | skip
      refine ⟨fun c5 => ?_, fun c5 => ?_⟩
      · skip
        first | (have t6 : ¬ (v1.toInt = (0)) := (not_congr (i_eq rfl (show (0 : Int32).toInt = 0 from rfl))).mp c5) | (have t6 : ¬ (v1.toInt = (0 : Int32).toInt) := (not_congr (i_eq rfl rfl)).mp c5) | skip
        have t8 : 0 ≤ (I v0 0).toInt ∧ (I v0 0).toInt ≤ 24 := w_I.fld 12 0 kv0 (by decide)
        unfold f_X12_rules_b167
        refine ⟨fun c9 => ?_, fun c9 => ?_⟩
        · skip
          first | (have t10 : (I v0 0).toInt < ((2) * v5.toInt) := (i_lt rfl (i_mul (show (2 : Int32).toInt = 2 from rfl) rfl (by omega) (by omega))).mp c9) | (have t10 : (I v0 0).toInt < ((2 : Int32) * v5).toInt := (i_lt rfl rfl).mp c9) | skip
          refine ⟨fun c11 => ?_, fun c11 => ?_⟩
          · skip
            first | (have t12 : v3.toInt = (0) := (i_eq rfl (show (0 : Int32).toInt = 0 from rfl)).mp c11) | (have t12 : v3.toInt = (0 : Int32).toInt := (i_eq rfl rfl).mp c11) | skip
            unfold f_X12_rules_b189
            unfold f_X12_rules_b192
            intro x13 ex13
            have rx13 := i_rng x13
            first | (have tx13 : x13.toInt = v4.toInt + (1) := by (rw [ex13]; exact (i_add rfl (show (1 : Int32).toInt = 1 from rfl) (by omega) (by omega)))) | skip
            exact hK40 v4 x13 I L w_I q_I   (by omega)  (by omega)
          · skip
            first | (have t14 : ¬ (v3.toInt = (0)) := (not_congr (i_eq rfl (show (0 : Int32).toInt = 0 from rfl))).mp c11) | (have t14 : ¬ (v3.toInt = (0 : Int32).toInt) := (not_congr (i_eq rfl rfl)).mp c11) | skip
            refine s_J6_bitCount_0f7a4 w_I v4    (fun r15 p16 => ?_)
            have rr15 := i_rng r15
            refine s_J6_bitCount_0f7a4 w_I v3    (fun r17 p18 => ?_)
            have rr17 := i_rng r17
            refine ⟨fun c19 => ?_, fun c19 => ?_⟩
            · skip
              first | (have t20 : r17.toInt ≤ r15.toInt := (i_le rfl rfl).mp c19) | (have t20 : r17.toInt ≤ r15.toInt := (i_le rfl rfl).mp c19) | skip
              unfold f_X12_rules_b192
              intro x21 ex21
              have rx21 := i_rng x21
              first | (have tx21 : x21.toInt = v4.toInt + (1) := by (rw [ex21]; exact (i_add rfl (show (1 : Int32).toInt = 1 from rfl) (by omega) (by omega)))) | skip
              exact hK40 v3 x21 I L w_I q_I   (by omega)  (by omega)
            · skip
              first | (have t22 : ¬ (r17.toInt ≤ r15.toInt) := (not_congr (i_le rfl rfl)).mp c19) | (have t22 : ¬ (r17.toInt ≤ r15.toInt) := (not_congr (i_le rfl rfl)).mp c19) | skip
              unfold f_X12_rules_b189
              unfold f_X12_rules_b192
              intro x23 ex23
              have rx23 := i_rng x23
              first | (have tx23 : x23.toInt = v4.toInt + (1) := by (rw [ex23]; exact (i_add rfl (show (1 : Int32).toInt = 1 from rfl) (by omega) (by omega)))) | skip
              exact hK40 v4 x23 I L w_I q_I   (by omega)  (by omega)
        · skip
          first | (have t24 : ¬ ((I v0 0).toInt < ((2) * v5.toInt)) := (not_congr (i_lt rfl (i_mul (show (2 : Int32).toInt = 2 from rfl) rfl (by omega) (by omega)))).mp c9) | (have t24 : ¬ ((I v0 0).toInt < ((2 : Int32) * v5).toInt) := (not_congr (i_lt rfl rfl)).mp c9) | skip
          unfold f_X12_rules_b192
          intro x25 ex25
          have rx25 := i_rng x25
          first | (have tx25 : x25.toInt = v4.toInt + (1) := by (rw [ex25]; exact (i_add rfl (show (1 : Int32).toInt = 1 from rfl) (by omega) (by omega)))) | skip
          exact hK40 v3 x25 I L w_I q_I   (by omega)  (by omega)
      · skip
        first | (have t26 : v1.toInt = (0) := (i_eq rfl (show (0 : Int32).toInt = 0 from rfl)).mp c5) | (have t26 : v1.toInt = (0 : Int32).toInt := (i_eq rfl rfl).mp c5) | skip
        unfold f_X12_rules_b167
        refine ⟨fun c27 => ?_, fun c27 => ?_⟩
        · skip
          first | (have t28 : (720) < ((2) * v5.toInt) := (i_lt (show (720 : Int32).toInt = 720 from rfl) (i_mul (show (2 : Int32).toInt = 2 from rfl) rfl (by omega) (by omega))).mp c27) | (have t28 : (720 : Int32).toInt < ((2 : Int32) * v5).toInt := (i_lt rfl rfl).mp c27) | skip
          refine ⟨fun c29 => ?_, fun c29 => ?_⟩
          · skip
            first | (have t30 : v3.toInt = (0) := (i_eq rfl (show (0 : Int32).toInt = 0 from rfl)).mp c29) | (have t30 : v3.toInt = (0 : Int32).toInt := (i_eq rfl rfl).mp c29) | skip
            unfold f_X12_rules_b189
            unfold f_X12_rules_b192
            intro x31 ex31
            have rx31 := i_rng x31
            first | (have tx31 : x31.toInt = v4.toInt + (1) := by (rw [ex31]; exact (i_add rfl (show (1 : Int32).toInt = 1 from rfl) (by omega) (by omega)))) | skip
            exact hK40 v4 x31 I L w_I q_I   (by omega)  (by omega)
          · skip
            first | (have t32 : ¬ (v3.toInt = (0)) := (not_congr (i_eq rfl (show (0 : Int32).toInt = 0 from rfl))).mp c29) | (have t32 : ¬ (v3.toInt = (0 : Int32).toInt) := (not_congr (i_eq rfl rfl)).mp c29) | skip
            refine s_J6_bitCount_0f7a4 w_I v4    (fun r33 p34 => ?_)
            have rr33 := i_rng r33
            refine s_J6_bitCount_0f7a4 w_I v3    (fun r35 p36 => ?_)
            have rr35 := i_rng r35
            refine ⟨fun c37 => ?_, fun c37 => ?_⟩
            · skip
              first | (have t38 : r35.toInt ≤ r33.toInt := (i_le rfl rfl).mp c37) | (have t38 : r35.toInt ≤ r33.toInt := (i_le rfl rfl).mp c37) | skip
              unfold f_X12_rules_b192
              intro x39 ex39
              have rx39 := i_rng x39
              first | (have tx39 : x39.toInt = v4.toInt + (1) := by (rw [ex39]; exact (i_add rfl (show (1 : Int32).toInt = 1 from rfl) (by omega) (by omega)))) | skip
              exact hK40 v3 x39 I L w_I q_I   (by omega)  (by omega)
            · skip
              first | (have t40 : ¬ (r35.toInt ≤ r33.toInt) := (not_congr (i_le rfl rfl)).mp c37) | (have t40 : ¬ (r35.toInt ≤ r33.toInt) := (not_congr (i_le rfl rfl)).mp c37) | skip
              unfold f_X12_rules_b189
              unfold f_X12_rules_b192
              intro x41 ex41
              have rx41 := i_rng x41
              first | (have tx41 : x41.toInt = v4.toInt + (1) := by (rw [ex41]; exact (i_add rfl (show (1 : Int32).toInt = 1 from rfl) (by omega) (by omega)))) | skip
              exact hK40 v4 x41 I L w_I q_I   (by omega)  (by omega)
        · skip
          first | (have t42 : ¬ ((720) < ((2) * v5.toInt)) := (not_congr (i_lt (show (720 : Int32).toInt = 720 from rfl) (i_mul (show (2 : Int32).toInt = 2 from rfl) rfl (by omega) (by omega)))).mp c27) | (have t42 : ¬ ((720 : Int32).toInt < ((2 : Int32) * v5).toInt) := (not_congr (i_lt rfl rfl)).mp c27) | skip
          unfold f_X12_rules_b192
          intro x43 ex43
          have rx43 := i_rng x43
          first | (have tx43 : x43.toInt = v4.toInt + (1) := by (rw [ex43]; exact (i_add rfl (show (1 : Int32).toInt = 1 from rfl) (by omega) (by omega)))) | skip
          exact hK40 v3 x43 I L w_I q_I   (by omega)  (by omega)
    · skip
      first | (have t44 : ¬ ((I v0 0).toInt ≤ v6.toInt) := (not_congr (i_le rfl rfl)).mp c3) | (have t44 : ¬ ((I v0 0).toInt ≤ v6.toInt) := (not_congr (i_le rfl rfl)).mp c3) | skip
      refine ⟨fun c45 => ?_, fun c45 => ?_⟩
      · skip
        first | (have t46 : ¬ (v1.toInt = (1)) := (not_congr (i_eq rfl (show (1 : Int32).toInt = 1 from rfl))).mp c45) | (have t46 : ¬ (v1.toInt = (1 : Int32).toInt) := (not_congr (i_eq rfl rfl)).mp c45) | skip
        unfold f_X12_rules_b139
        unfold f_X12_rules_b140
        intro x47 ex47
        have rx47 := i_rng x47
        first | (have tx47 : x47.toInt = (v5.toInt + (0)) := by (rw [ex47]; exact (i_add rfl (show (0 : Int32).toInt = 0 from rfl) (by omega) (by omega)))) | (have tx47 : x47.toInt = (v5 + (0 : Int32)).toInt := by rw [ex47])
        intro x48 ex48
        have rx48 := i_rng x48
        first | (have tx48 : x48.toInt = v6.toInt + (1) := by (rw [ex48]; exact (i_add rfl (show (1 : Int32).toInt = 1 from rfl) (by omega) (by omega)))) | skip
        exact ih x47 x48 I L w_I q_I   (by omega) (by omega) (by omega)
      · skip
        first | (have t49 : v1.toInt = (1) := (i_eq rfl (show (1 : Int32).toInt = 1 from rfl)).mp c45) | (have t49 : v1.toInt = (1 : Int32).toInt := (i_eq rfl rfl).mp c45) | skip
        refine s_X12_mainOf w_I v0 v6 kv0  (by omega) (fun r50 p51 => ?_)
        have rr50 := i_rng r50
        refine s_X12_has w_I v4 r50    (fun r52  => ?_)
        have rr52 := i_rng r52
        refine ⟨fun c53 => ?_, fun c53 => ?_⟩
        · skip
          first | (have t54 : r52.toInt = (0) := (i_eq rfl (show (0 : Int32).toInt = 0 from rfl)).mp c53) | (have t54 : r52.toInt = (0 : Int32).toInt := (i_eq rfl rfl).mp c53) | skip
          unfold f_X12_rules_b139
          unfold f_X12_rules_b140
          intro x55 ex55
          have rx55 := i_rng x55
          first | (have tx55 : x55.toInt = (v5.toInt + (0)) := by (rw [ex55]; exact (i_add rfl (show (0 : Int32).toInt = 0 from rfl) (by omega) (by omega)))) | (have tx55 : x55.toInt = (v5 + (0 : Int32)).toInt := by rw [ex55])
          intro x56 ex56
          have rx56 := i_rng x56
          first | (have tx56 : x56.toInt = v6.toInt + (1) := by (rw [ex56]; exact (i_add rfl (show (1 : Int32).toInt = 1 from rfl) (by omega) (by omega)))) | skip
          exact ih x55 x56 I L w_I q_I   (by omega) (by omega) (by omega)
        · skip
          first | (have t57 : ¬ (r52.toInt = (0)) := (not_congr (i_eq rfl (show (0 : Int32).toInt = 0 from rfl))).mp c53) | (have t57 : ¬ (r52.toInt = (0 : Int32).toInt) := (not_congr (i_eq rfl rfl)).mp c53) | skip
          unfold f_X12_rules_b140
          intro x58 ex58
          have rx58 := i_rng x58
          first | (have tx58 : x58.toInt = (v5.toInt + (1)) := by (rw [ex58]; exact (i_add rfl (show (1 : Int32).toInt = 1 from rfl) (by omega) (by omega)))) | (have tx58 : x58.toInt = (v5 + (1 : Int32)).toInt := by rw [ex58])
          intro x59 ex59
          have rx59 := i_rng x59
          first | (have tx59 : x59.toInt = v6.toInt + (1) := by (rw [ex59]; exact (i_add rfl (show (1 : Int32).toInt = 1 from rfl) (by omega) (by omega)))) | skip
          exact ih x58 x59 I L w_I q_I   (by omega) (by omega) (by omega)
set_option maxHeartbeats 4000000 in
set_option maxRecDepth 100000 in
theorem l_X12_rules_L54 {Z : jZ} {I0 : jI} {Q : Int32 → jI → jL → Prop} (w0 : WD Z I0) (v0 : Nat) (v1 : Int32) (v2 : Int32) (kv0 : jk Z v0 12) (v3 : Int32) (v4 : Int32) (hQ : ∀ (r : Int32) (I' : jI) (L' : jL), WD Z I' → FR Ws_X12_rules Z I0 Z I' → Q r I' L') {K40 : Nat → Int32 → Int32 → Int32 → Int32 → jI → jL → Prop} {N40 : Int} (hK40 : ∀ (v3 : Int32) (v4 : Int32) (I : jI) (L : jL), WD Z I → FR Ws_X12_rules Z I0 Z I →   (1 ≤ v4.toInt ∧ v4.toInt ≤ 256 ∧ (¬ v1.toInt = 0 ∨ (0 ≤ v2.toInt ∧ v2.toInt ≤ 23))) → 256 - v4.toInt < N40 → K40 v0 v1 v2 v3 v4 I L) : ∀ (n : Nat) (v5 : Int32) (v6 : Int32) (I : jI) (L : jL), WD Z I → FR Ws_X12_rules Z I0 Z I →   (1 ≤ v4.toInt ∧ v4.toInt ≤ 255 ∧ (¬ v1.toInt = 0 ∨ (0 ≤ v2.toInt ∧ v2.toInt ≤ 23)) ∧ 0 ≤ v6.toInt ∧ v6.toInt ≤ 8) → 256 - v4.toInt ≤ N40 → 8 - v6.toInt < (n : Int) → f_X12_rules_L54 K40 Z Q n v0 v1 v2 v3 v4 v5 v6 I L := by
  intro n
  induction n with
  | zero =>
    intro v5 v6 I L w_I q_I   li hm40 me
    exfalso
    omega
  | succ n ih =>
    intro v5 v6 I L w_I q_I   li hm40 me
    unfold f_X12_rules_L54
    have rv5 := i_rng v5
    have rv6 := i_rng v6
    have rv3 := i_rng v3
    have rv4 := i_rng v4
    have rv1 := i_rng v1
    have rv2 := i_rng v2
    refine ⟨fun c60 => ?_, fun c60 => ?_⟩
    · skip
      first | (have t61 : (8) ≤ v6.toInt := (i_le (show (8 : Int32).toInt = 8 from rfl) rfl).mp c60) | (have t61 : (8 : Int32).toInt ≤ v6.toInt := (i_le rfl rfl).mp c60) | skip
      have t62 : (0 : Int32).toInt = 0 := rfl
      exact ⟨(24 - (0 : Int32).toInt).toNat + 1, l_X12_rules_L105 w0 v0 v1 v2 kv0 v3 v4  hQ hK40  _ v5 (0 : Int32) I L w_I q_I   (by omega) (by omega) (by omega)⟩
    · skip
      first | (have t63 : ¬ ((8) ≤ v6.toInt) := (not_congr (i_le (show (8 : Int32).toInt = 8 from rfl) rfl)).mp c60) | (have t63 : ¬ ((8 : Int32).toInt ≤ v6.toInt) := (not_congr (i_le rfl rfl)).mp c60) | skip
      refine ⟨fun c64 => ?_, fun c64 => ?_⟩
      · skip
        first | (have t65 : ¬ (v1.toInt = (0)) := (not_congr (i_eq rfl (show (0 : Int32).toInt = 0 from rfl))).mp c64) | (have t65 : ¬ (v1.toInt = (0 : Int32).toInt) := (not_congr (i_eq rfl rfl)).mp c64) | skip
        unfold f_X12_rules_b92
        unfold f_X12_rules_b93
        intro x66 ex66
        have rx66 := i_rng x66
        first | (have tx66 : x66.toInt = (v5.toInt + (0)) := by (rw [ex66]; exact (i_add rfl (show (0 : Int32).toInt = 0 from rfl) (by omega) (by omega)))) | (have tx66 : x66.toInt = (v5 + (0 : Int32)).toInt := by rw [ex66])
        intro x67 ex67
        have rx67 := i_rng x67
        first | (have tx67 : x67.toInt = v6.toInt + (1) := by (rw [ex67]; exact (i_add rfl (show (1 : Int32).toInt = 1 from rfl) (by omega) (by omega)))) | skip
        exact ih x66 x67 I L w_I q_I   (by omega) (by omega) (by omega)
      · skip
        first | (have t68 : v1.toInt = (0) := (i_eq rfl (show (0 : Int32).toInt = 0 from rfl)).mp c64) | (have t68 : v1.toInt = (0 : Int32).toInt := (i_eq rfl rfl).mp c64) | skip
        refine s_X12_has w_I v4 v6    (fun r69  => ?_)
        have rr69 := i_rng r69
        refine ⟨fun c70 => ?_, fun c70 => ?_⟩
        · skip
          first | (have t71 : r69.toInt = (0) := (i_eq rfl (show (0 : Int32).toInt = 0 from rfl)).mp c70) | (have t71 : r69.toInt = (0 : Int32).toInt := (i_eq rfl rfl).mp c70) | skip
          unfold f_X12_rules_b92
          unfold f_X12_rules_b93
          intro x72 ex72
          have rx72 := i_rng x72
          first | (have tx72 : x72.toInt = (v5.toInt + (0)) := by (rw [ex72]; exact (i_add rfl (show (0 : Int32).toInt = 0 from rfl) (by omega) (by omega)))) | (have tx72 : x72.toInt = (v5 + (0 : Int32)).toInt := by rw [ex72])
          intro x73 ex73
          have rx73 := i_rng x73
          first | (have tx73 : x73.toInt = v6.toInt + (1) := by (rw [ex73]; exact (i_add rfl (show (1 : Int32).toInt = 1 from rfl) (by omega) (by omega)))) | skip
          exact ih x72 x73 I L w_I q_I   (by omega) (by omega) (by omega)
        · skip
          first | (have t74 : ¬ (r69.toInt = (0)) := (not_congr (i_eq rfl (show (0 : Int32).toInt = 0 from rfl))).mp c70) | (have t74 : ¬ (r69.toInt = (0 : Int32).toInt) := (not_congr (i_eq rfl rfl)).mp c70) | skip
          intro b75 eb75
          obtain ⟨x76, ex76, kb75, lb75⟩ := sh_f w_I.1 kv0 (j := 5) (k := 14) (m := 192) rfl
          cases eb75.symm.trans ex76
          have o77 : vp_in (((8 : Int32) * v2) + v6) 192 := vi_of (i_add (i_mul (show (8 : Int32).toInt = 8 from rfl) rfl (by omega) (by omega)) rfl (by omega) (by omega)) (by omega) (by omega)
          refine ⟨o77, ?_⟩
          unfold f_X12_rules_b93
          intro x78 ex78
          have rx78 := i_rng x78
          first | (have tx78 : x78.toInt = (v5.toInt + (I b75 (((8 : Int32) * v2) + v6).toNatClampNeg).toInt) := by (rw [ex78]; exact (i_add rfl rfl (by omega) (by omega)))) | (have tx78 : x78.toInt = (v5 + (I b75 (((8 : Int32) * v2) + v6).toNatClampNeg)).toInt := by rw [ex78])
          intro x79 ex79
          have rx79 := i_rng x79
          first | (have tx79 : x79.toInt = v6.toInt + (1) := by (rw [ex79]; exact (i_add rfl (show (1 : Int32).toInt = 1 from rfl) (by omega) (by omega)))) | skip
          exact ih x78 x79 I L w_I q_I   (by omega) (by omega) (by omega)
set_option maxHeartbeats 4000000 in
set_option maxRecDepth 100000 in
theorem l_X12_rules_L40 {Z : jZ} {I0 : jI} {Q : Int32 → jI → jL → Prop} (w0 : WD Z I0) (v0 : Nat) (v1 : Int32) (v2 : Int32) (kv0 : jk Z v0 12) (hQ : ∀ (r : Int32) (I' : jI) (L' : jL), WD Z I' → FR Ws_X12_rules Z I0 Z I' → Q r I' L') : ∀ (n : Nat) (v3 : Int32) (v4 : Int32) (I : jI) (L : jL), WD Z I → FR Ws_X12_rules Z I0 Z I →   (1 ≤ v4.toInt ∧ v4.toInt ≤ 256 ∧ (¬ v1.toInt = 0 ∨ (0 ≤ v2.toInt ∧ v2.toInt ≤ 23))) → 256 - v4.toInt < (n : Int) → f_X12_rules_L40  Z Q n v0 v1 v2 v3 v4 I L := by
  intro n
  induction n with
  | zero =>
    intro v3 v4 I L w_I q_I   li  me
    exfalso
    omega
  | succ n ih =>
    intro v3 v4 I L w_I q_I   li  me
    unfold f_X12_rules_L40
    have rv3 := i_rng v3
    have rv4 := i_rng v4
    have rv1 := i_rng v1
    have rv2 := i_rng v2
    refine ⟨fun c80 => ?_, fun c80 => ?_⟩
    · skip
      first | (have t81 : (256) ≤ v4.toInt := (i_le (show (256 : Int32).toInt = 256 from rfl) rfl).mp c80) | (have t81 : (256 : Int32).toInt ≤ v4.toInt := (i_le rfl rfl).mp c80) | skip
      intro I82 eI82
      have t83 : (0 : Int32).toInt = 0 := rfl
      have w_I82 : WD Z I82 := by rw [eI82]; exact WD_putF w_I 12 21 kv0 (by decide) (by decide) (by constructor <;> omega)
      have f_I82 : FR [(12, 21)] Z I Z I82 := by rw [eI82]; exact FR_putF kv0 (by decide) List.mem_cons_self
      have q_I82 : FR Ws_X12_rules Z I0 Z I82 := q_I.trans w0.1 w0.2.1 (f_I82.mono (by decide))
      first | (have u84 : (I82 v0 21).toInt = (0) := by (rw [eI82, show jpI I v0 21 (0 : Int32) v0 21 = (0 : Int32) from jpI_at] <;> exact (show (0 : Int32).toInt = 0 from rfl))) | skip
      refine s_X12_tell w_I82 v0 (v3.toInt64) kv0  (by omega) (fun  I86 L87 w_I86 f_I86 p85 => ?_)
      have q_I86 : FR Ws_X12_rules Z I0 Z I86 := q_I82.trans w0.1 w0.2.1 (f_I86.mono (by decide))
      refine s_J6_bitCount_0f7a4 w_I86 v3    (fun r88 p89 => ?_)
      have rr88 := i_rng r88
      exact hQ r88 I86 L87 w_I86 q_I86 
    · skip
      first | (have t90 : ¬ ((256) ≤ v4.toInt) := (not_congr (i_le (show (256 : Int32).toInt = 256 from rfl) rfl)).mp c80) | (have t90 : ¬ ((256 : Int32).toInt ≤ v4.toInt) := (not_congr (i_le rfl rfl)).mp c80) | skip
      have t91 : (0 : Int32).toInt = 0 := rfl
      have t92 : (0 : Int32).toInt = 0 := rfl
      exact ⟨(8 - (0 : Int32).toInt).toNat + 1, l_X12_rules_L54 w0 v0 v1 v2 kv0 v3 v4  hQ ih  _ (0 : Int32) (0 : Int32) I L w_I q_I   (by omega) (by omega) (by omega)⟩
set_option maxHeartbeats 4000000 in
set_option maxRecDepth 100000 in
theorem s_X12_rules {Z : jZ} {I : jI} {L : jL} (w_I : WD Z I) (v0 : Nat) (v1 : Int32) (v2 : Int32) (kv0 : jk Z v0 12) {Q : Int32 → jI → jL → Prop} (hQ : ∀ (r : Int32) (I' : jI) (L' : jL), WD Z I' → FR Ws_X12_rules Z I Z I' → Q r I' L') : f_X12_rules v0 v1 v2 Z I L Q := by
  unfold f_X12_rules
  have q_I : FR Ws_X12_rules Z I Z I := FR.rf
  have rv1 := i_rng v1
  have rv2 := i_rng v2
  intro I93 eI93
  have t94 : (0 : Int32).toInt = 0 := rfl
  have w_I93 : WD Z I93 := by rw [eI93]; exact WD_putF w_I 12 22 kv0 (by decide) (by decide) trivial
  have f_I93 : FR [(12, 22)] Z I Z I93 := by rw [eI93]; exact FR_putF kv0 (by decide) List.mem_cons_self
  have q_I93 : FR Ws_X12_rules Z I Z I93 := q_I.trans w_I.1 w_I.2.1 (f_I93.mono (by decide))
  first | (have u95 : (I93 v0 22).toInt = (0) := by (rw [eI93, show jpI I v0 22 (0 : Int32) v0 22 = (0 : Int32) from jpI_at] <;> exact (show (0 : Int32).toInt = 0 from rfl))) | skip
  have t97 : 0 ≤ (I93 v0 0).toInt ∧ (I93 v0 0).toInt ≤ 24 := w_I93.fld 12 0 kv0 (by decide)
  refine ⟨fun c98 => ?_, fun c98 => ?_⟩
  · skip
    first | (have t99 : (I93 v0 0).toInt = (0) := (i_eq rfl (show (0 : Int32).toInt = 0 from rfl)).mp c98) | (have t99 : (I93 v0 0).toInt = (0 : Int32).toInt := (i_eq rfl rfl).mp c98) | skip
    have t100 : (-1 : Int32).toInt = -1 := rfl
    exact hQ (-1 : Int32) I93 L w_I93 q_I93 
  · skip
    first | (have t101 : ¬ ((I93 v0 0).toInt = (0)) := (not_congr (i_eq rfl (show (0 : Int32).toInt = 0 from rfl))).mp c98) | (have t101 : ¬ ((I93 v0 0).toInt = (0 : Int32).toInt) := (not_congr (i_eq rfl rfl)).mp c98) | skip
    have t102 : (0 : Int32).toInt = 0 := rfl
    have t103 : (1 : Int32).toInt = 1 := rfl
    refine s_X12_in w_I93 v1 (0 : Int32) (1 : Int32)    (fun r104 p105 => ?_)
    have rr104 := i_rng r104
    refine ⟨fun c106 => ?_, fun c106 => ?_⟩
    · skip
      first | (have t107 : r104.toInt = (0) := (i_eq rfl (show (0 : Int32).toInt = 0 from rfl)).mp c106) | (have t107 : r104.toInt = (0 : Int32).toInt := (i_eq rfl rfl).mp c106) | skip
      have t108 : (-1 : Int32).toInt = -1 := rfl
      exact hQ (-1 : Int32) I93 L w_I93 q_I93 
    · skip
      first | (have t109 : ¬ (r104.toInt = (0)) := (not_congr (i_eq rfl (show (0 : Int32).toInt = 0 from rfl))).mp c106) | (have t109 : ¬ (r104.toInt = (0 : Int32).toInt) := (not_congr (i_eq rfl rfl)).mp c106) | skip
      refine ⟨fun c110 => ?_, fun c110 => ?_⟩
      · skip
        first | (have t111 : ¬ (v1.toInt = (0)) := (not_congr (i_eq rfl (show (0 : Int32).toInt = 0 from rfl))).mp c110) | (have t111 : ¬ (v1.toInt = (0 : Int32).toInt) := (not_congr (i_eq rfl rfl)).mp c110) | skip
        unfold f_X12_rules_b35
        have t112 : (0 : Int32).toInt = 0 := rfl
        have t113 : (1 : Int32).toInt = 1 := rfl
        exact ⟨(256 - (1 : Int32).toInt).toNat + 1, l_X12_rules_L40 w_I v0 v1 v2 kv0   hQ   _ (0 : Int32) (1 : Int32) I93 L w_I93 q_I93   (by omega)  (by omega)⟩
      · skip
        first | (have t114 : v1.toInt = (0) := (i_eq rfl (show (0 : Int32).toInt = 0 from rfl)).mp c110) | (have t114 : v1.toInt = (0 : Int32).toInt := (i_eq rfl rfl).mp c110) | skip
        refine s_X12_isStep w_I93 v0 v2 kv0   (fun r115 p116 => ?_)
        have rr115 := i_rng r115
        refine ⟨fun c117 => ?_, fun c117 => ?_⟩
        · skip
          first | (have t118 : ¬ (r115.toInt = (0)) := (not_congr (i_eq rfl (show (0 : Int32).toInt = 0 from rfl))).mp c117) | (have t118 : ¬ (r115.toInt = (0 : Int32).toInt) := (not_congr (i_eq rfl rfl)).mp c117) | skip
          unfold f_X12_rules_b35
          have t119 : (0 : Int32).toInt = 0 := rfl
          have t120 : (1 : Int32).toInt = 1 := rfl
          exact ⟨(256 - (1 : Int32).toInt).toNat + 1, l_X12_rules_L40 w_I v0 v1 v2 kv0   hQ   _ (0 : Int32) (1 : Int32) I93 L w_I93 q_I93   (by omega)  (by omega)⟩
        · skip
          first | (have t121 : r115.toInt = (0) := (i_eq rfl (show (0 : Int32).toInt = 0 from rfl)).mp c117) | (have t121 : r115.toInt = (0 : Int32).toInt := (i_eq rfl rfl).mp c117) | skip
          have t122 : (-1 : Int32).toInt = -1 := rfl
          exact hQ (-1 : Int32) I93 L w_I93 q_I93 
set_option maxHeartbeats 4000000 in
set_option maxRecDepth 100000 in
theorem s_X12_placeOf {Z : jZ} {I : jI} {L : jL} (w_I : WD Z I) (v0 : Nat) (v1 : Int32) (kv0 : jk Z v0 12) (p0 : 0 ≤ v1.toInt ∧ v1.toInt ≤ 5) {Q : Int32 → jI → jL → Prop} (hQ : ∀ (r : Int32), (-1 ≤ r.toInt ∧ r.toInt ≤ 23) → Q r I L) : f_X12_placeOf v0 v1 Z I L Q := by
  unfold f_X12_placeOf
  have rv1 := i_rng v1
  intro b1 eb1
  obtain ⟨x2, ex2, kb1, lb1⟩ := sh_f w_I.1 kv0 (j := 57) (k := 14) (m := 6) rfl
  cases eb1.symm.trans ex2
  have o3 : vp_in v1 6 := vi_of rfl (by omega) (by omega)
  refine ⟨o3, ?_⟩
  have t4 : 0 ≤ (I b1 v1.toNatClampNeg).toInt ∧ (I b1 v1.toNatClampNeg).toInt ≤ 24 := w_I.arr 12 57 kv0 eb1 kb1 rfl rfl _
  refine ⟨fun c5 => ?_, fun c5 => ?_⟩
  · skip
    first | (have t6 : ¬ ((I b1 v1.toNatClampNeg).toInt = (0)) := (not_congr (i_eq rfl (show (0 : Int32).toInt = 0 from rfl))).mp c5) | (have t6 : ¬ ((I b1 v1.toNatClampNeg).toInt = (0 : Int32).toInt) := (not_congr (i_eq rfl rfl)).mp c5) | skip
    intro b7 eb7
    obtain ⟨x8, ex8, kb7, lb7⟩ := sh_f w_I.1 kv0 (j := 55) (k := 14) (m := 144) rfl
    cases eb7.symm.trans ex8
    intro b9 eb9
    obtain rfl : b1 = b9 := Option.some.inj (eb1.symm.trans eb9)
    have o10 : vp_in v1 6 := vi_of rfl (by omega) (by omega)
    refine ⟨o10, ?_⟩
    have t11 : 0 ≤ (I b1 v1.toNatClampNeg).toInt ∧ (I b1 v1.toNatClampNeg).toInt ≤ 24 := w_I.arr 12 57 kv0 eb1 kb1 rfl rfl _
    have o12 : vp_in ((((24 : Int32) * v1) + (I b1 v1.toNatClampNeg)) - (1 : Int32)) 144 := vi_of (i_sub (i_add (i_mul (show (24 : Int32).toInt = 24 from rfl) rfl (by omega) (by omega)) rfl (by omega) (by omega)) (show (1 : Int32).toInt = 1 from rfl) (by omega) (by omega)) (by omega) (by omega)
    refine ⟨o12, ?_⟩
    have t13 : 0 ≤ (I b7 ((((24 : Int32) * v1) + (I b1 v1.toNatClampNeg)) - (1 : Int32)).toNatClampNeg).toInt ∧ (I b7 ((((24 : Int32) * v1) + (I b1 v1.toNatClampNeg)) - (1 : Int32)).toNatClampNeg).toInt ≤ 23 := w_I.arr 12 55 kv0 eb7 kb7 rfl rfl _
    exact hQ (I b7 ((((24 : Int32) * v1) + (I b1 v1.toNatClampNeg)) - (1 : Int32)).toNatClampNeg) (by omega)
  · skip
    first | (have t14 : (I b1 v1.toNatClampNeg).toInt = (0) := (i_eq rfl (show (0 : Int32).toInt = 0 from rfl)).mp c5) | (have t14 : (I b1 v1.toNatClampNeg).toInt = (0 : Int32).toInt := (i_eq rfl rfl).mp c5) | skip
    have t15 : (-1 : Int32).toInt = -1 := rfl
    exact hQ (-1 : Int32) (by omega)
set_option maxHeartbeats 4000000 in
set_option maxRecDepth 100000 in
theorem l_X12_onStep_L4 {Z : jZ} {I : jI} {L : jL} {Q : Int32 → jI → jL → Prop} (w_I : WD Z I) (v0 : Nat) (v1 : Int32) (kv0 : jk Z v0 12) (hQ : ∀ (r : Int32), Q r I L) : ∀ (n : Nat) (v2 : Int32) (v3 : Int32) ,   (0 ≤ v3.toInt ∧ v3.toInt ≤ 6) → 6 - v3.toInt < (n : Int) → f_X12_onStep_L4  Z Q n v0 v1 v2 v3 I L := by
  intro n
  induction n with
  | zero =>
    intro v2 v3   li  me
    exfalso
    omega
  | succ n ih =>
    intro v2 v3   li  me
    unfold f_X12_onStep_L4
    have rv2 := i_rng v2
    have rv3 := i_rng v3
    have rv1 := i_rng v1
    have t2 : 0 ≤ (I v0 8).toInt ∧ (I v0 8).toInt ≤ 6 := w_I.fld 12 8 kv0 (by decide)
    refine ⟨fun c3 => ?_, fun c3 => ?_⟩
    · skip
      first | (have t4 : (I v0 8).toInt ≤ v3.toInt := (i_le rfl rfl).mp c3) | (have t4 : (I v0 8).toInt ≤ v3.toInt := (i_le rfl rfl).mp c3) | skip
      exact hQ v2 
    · skip
      first | (have t5 : ¬ ((I v0 8).toInt ≤ v3.toInt) := (not_congr (i_le rfl rfl)).mp c3) | (have t5 : ¬ ((I v0 8).toInt ≤ v3.toInt) := (not_congr (i_le rfl rfl)).mp c3) | skip
      intro b6 eb6
      obtain ⟨x7, ex7, kb6, lb6⟩ := sh_f w_I.1 kv0 (j := 56) (k := 14) (m := 6) rfl
      cases eb6.symm.trans ex7
      have o8 : vp_in v3 6 := vi_of rfl (by omega) (by omega)
      refine ⟨o8, ?_⟩
      have t9 : 0 ≤ (I b6 v3.toNatClampNeg).toInt ∧ (I b6 v3.toNatClampNeg).toInt ≤ 24 := w_I.arr 12 56 kv0 eb6 kb6 rfl rfl _
      refine ⟨fun c10 => ?_, fun c10 => ?_⟩
      · skip
        first | (have t11 : (I b6 v3.toNatClampNeg).toInt ≤ (0) := (i_le rfl (show (0 : Int32).toInt = 0 from rfl)).mp c10) | (have t11 : (I b6 v3.toNatClampNeg).toInt ≤ (0 : Int32).toInt := (i_le rfl rfl).mp c10) | skip
        unfold f_X12_onStep_b35
        unfold f_X12_onStep_b36
        intro x12 ex12
        have rx12 := i_rng x12
        first | (have tx12 : x12.toInt = (v2.toInt + (0)) := by (rw [ex12]; exact (i_add rfl (show (0 : Int32).toInt = 0 from rfl) (by omega) (by omega)))) | (have tx12 : x12.toInt = (v2 + (0 : Int32)).toInt := by rw [ex12])
        intro x13 ex13
        have rx13 := i_rng x13
        first | (have tx13 : x13.toInt = v3.toInt + (1) := by (rw [ex13]; exact (i_add rfl (show (1 : Int32).toInt = 1 from rfl) (by omega) (by omega)))) | skip
        exact ih x12 x13   (by omega)  (by omega)
      · skip
        first | (have t14 : ¬ ((I b6 v3.toNatClampNeg).toInt ≤ (0)) := (not_congr (i_le rfl (show (0 : Int32).toInt = 0 from rfl))).mp c10) | (have t14 : ¬ ((I b6 v3.toNatClampNeg).toInt ≤ (0 : Int32).toInt) := (not_congr (i_le rfl rfl)).mp c10) | skip
        refine s_X12_placeOf w_I v0 v3 kv0  (by omega) (fun r15 p16 => ?_)
        have rr15 := i_rng r15
        refine ⟨fun c17 => ?_, fun c17 => ?_⟩
        · skip
          first | (have t18 : ¬ (r15.toInt = v1.toInt) := (not_congr (i_eq rfl rfl)).mp c17) | (have t18 : ¬ (r15.toInt = v1.toInt) := (not_congr (i_eq rfl rfl)).mp c17) | skip
          unfold f_X12_onStep_b35
          unfold f_X12_onStep_b36
          intro x19 ex19
          have rx19 := i_rng x19
          first | (have tx19 : x19.toInt = (v2.toInt + (0)) := by (rw [ex19]; exact (i_add rfl (show (0 : Int32).toInt = 0 from rfl) (by omega) (by omega)))) | (have tx19 : x19.toInt = (v2 + (0 : Int32)).toInt := by rw [ex19])
          intro x20 ex20
          have rx20 := i_rng x20
          first | (have tx20 : x20.toInt = v3.toInt + (1) := by (rw [ex20]; exact (i_add rfl (show (1 : Int32).toInt = 1 from rfl) (by omega) (by omega)))) | skip
          exact ih x19 x20   (by omega)  (by omega)
        · skip
          first | (have t21 : r15.toInt = v1.toInt := (i_eq rfl rfl).mp c17) | (have t21 : r15.toInt = v1.toInt := (i_eq rfl rfl).mp c17) | skip
          unfold f_X12_onStep_b36
          intro x22 ex22
          have rx22 := i_rng x22
          first | (have tx22 : x22.toInt = (v2.toInt + (1)) := by (rw [ex22]; exact (i_add rfl (show (1 : Int32).toInt = 1 from rfl) (by omega) (by omega)))) | (have tx22 : x22.toInt = (v2 + (1 : Int32)).toInt := by rw [ex22])
          intro x23 ex23
          have rx23 := i_rng x23
          first | (have tx23 : x23.toInt = v3.toInt + (1) := by (rw [ex23]; exact (i_add rfl (show (1 : Int32).toInt = 1 from rfl) (by omega) (by omega)))) | skip
          exact ih x22 x23   (by omega)  (by omega)
set_option maxHeartbeats 4000000 in
set_option maxRecDepth 100000 in
theorem s_X12_onStep {Z : jZ} {I : jI} {L : jL} (w_I : WD Z I) (v0 : Nat) (v1 : Int32) (kv0 : jk Z v0 12) {Q : Int32 → jI → jL → Prop} (hQ : ∀ (r : Int32), Q r I L) : f_X12_onStep v0 v1 Z I L Q := by
  unfold f_X12_onStep
  have rv1 := i_rng v1
  have t24 : (0 : Int32).toInt = 0 := rfl
  have t25 : (0 : Int32).toInt = 0 := rfl
  exact ⟨(6 - (0 : Int32).toInt).toNat + 1, l_X12_onStep_L4 w_I v0 v1 kv0   hQ   _ (0 : Int32) (0 : Int32)   (by omega)  (by omega)⟩
def Ws_X12_put : List (Nat × Nat) := [(12, 62), (12, 66)]
set_option maxHeartbeats 4000000 in
set_option maxRecDepth 100000 in
theorem s_X12_put {Z : jZ} {I : jI} {L : jL} (w_I : WD Z I) (v0 : Nat) (v1 : Int32) (kv0 : jk Z v0 12) (p0 : 0 ≤ (I v0 66).toInt ∧ (I v0 66).toInt ≤ 531) (p1 : okA 12 62 (I v0 66).toNatClampNeg v1) {Q : jI → jL → Prop} (hQ : ∀  (I' : jI) (L' : jL), WD Z I' → FR Ws_X12_put Z I Z I' → (I' v0 66).toInt = (I v0 66).toInt + 1 → Q I' L') : f_X12_put v0 v1 Z I L Q := by
  unfold f_X12_put
  have q_I : FR Ws_X12_put Z I Z I := FR.rf
  have rv1 := i_rng v1
  intro b1 eb1
  obtain ⟨x2, ex2, kb1, lb1⟩ := sh_f w_I.1 kv0 (j := 62) (k := 14) (m := 532) rfl
  cases eb1.symm.trans ex2
  have o3 : vp_in (I v0 66) 532 := vi_of rfl (by omega) (by omega)
  refine ⟨o3, ?_⟩
  intro I4 eI4
  have t5 := i_nat (x := (I v0 66)) rfl (by omega)
  have w_I4 : WD Z I4 := by rw [eI4]; exact WD_putA w_I 12 62 kv0 eb1 kb1 rfl rfl (by decide) (by exact p1)
  have f_I4 : FR [(12, 62)] Z I Z I4 := by rw [eI4]; exact FR_upA w_I.2.1 kv0 eb1 kb1 rfl rfl List.mem_cons_self
  have q_I4 : FR Ws_X12_put Z I Z I4 := q_I.trans w_I.1 w_I.2.1 (f_I4.mono (by decide))
  have u6 : (I4 v0 66).toInt = (I v0 66).toInt := by rw [f_I4.2.2.1 v0 12 66 kv0 (by decide) (by decide)]
  intro I7 eI7
  try (have t8 : ((I4 v0 66) + (1 : Int32)).toInt = ((I4 v0 66).toInt + (1)) := (i_add rfl (show (1 : Int32).toInt = 1 from rfl) (by omega) (by omega)))
  have w_I7 : WD Z I7 := by rw [eI7]; exact WD_putF w_I4 12 66 kv0 (by decide) (by decide) trivial
  have f_I7 : FR [(12, 66)] Z I4 Z I7 := by rw [eI7]; exact FR_putF kv0 (by decide) List.mem_cons_self
  have q_I7 : FR Ws_X12_put Z I Z I7 := q_I4.trans w_I.1 w_I.2.1 (f_I7.mono (by decide))
  first | (have u9 : (I7 v0 66).toInt = ((I4 v0 66).toInt + (1)) := by (rw [eI7, show jpI I4 v0 66 ((I4 v0 66) + (1 : Int32)) v0 66 = ((I4 v0 66) + (1 : Int32)) from jpI_at] <;> exact (i_add rfl (show (1 : Int32).toInt = 1 from rfl) (by omega) (by omega)))) | skip
  exact hQ  I7 L w_I7 q_I7 (by omega)
def Ws_X12_row : List (Nat × Nat) := [(12, 22)]
set_option maxHeartbeats 4000000 in
set_option maxRecDepth 100000 in
theorem s_X12_row {Z : jZ} {I : jI} {L : jL} (w_I : WD Z I) (v0 : Nat) (v1 : Int32) (kv0 : jk Z v0 12) {Q : Int64 → jI → jL → Prop} (hQ : ∀ (r : Int64) (I' : jI) (L' : jL), WD Z I' → FR Ws_X12_row Z I Z I' → Q r I' L') : f_X12_row v0 v1 Z I L Q := by
  unfold f_X12_row
  have q_I : FR Ws_X12_row Z I Z I := FR.rf
  have rv1 := i_rng v1
  intro I1 eI1
  have t2 : (0 : Int32).toInt = 0 := rfl
  have w_I1 : WD Z I1 := by rw [eI1]; exact WD_putF w_I 12 22 kv0 (by decide) (by decide) trivial
  have f_I1 : FR [(12, 22)] Z I Z I1 := by rw [eI1]; exact FR_putF kv0 (by decide) List.mem_cons_self
  have q_I1 : FR Ws_X12_row Z I Z I1 := q_I.trans w_I.1 w_I.2.1 (f_I1.mono (by decide))
  first | (have u3 : (I1 v0 22).toInt = (0) := by (rw [eI1, show jpI I v0 22 (0 : Int32) v0 22 = (0 : Int32) from jpI_at] <;> exact (show (0 : Int32).toInt = 0 from rfl))) | skip
  have t5 : 0 ≤ (I1 v0 21).toInt ∧ (I1 v0 21).toInt ≤ 40 := w_I1.fld 12 21 kv0 (by decide)
  have t6 : (0 : Int32).toInt = 0 := rfl
  try (have t7 : ((I1 v0 21) - (1 : Int32)).toInt = ((I1 v0 21).toInt - (1)) := (i_sub rfl (show (1 : Int32).toInt = 1 from rfl) (by omega) (by omega)))
  refine s_X12_in w_I1 v1 (0 : Int32) ((I1 v0 21) - (1 : Int32))    (fun r8 p9 => ?_)
  have rr8 := i_rng r8
  refine ⟨fun c10 => ?_, fun c10 => ?_⟩
  · skip
    first | (have t11 : r8.toInt = (0) := (i_eq rfl (show (0 : Int32).toInt = 0 from rfl)).mp c10) | (have t11 : r8.toInt = (0 : Int32).toInt := (i_eq rfl rfl).mp c10) | skip
    refine s_X12_lost w_I1 v0 kv0   (fun r12 I13 L14 w_I13 f_I13  => ?_)
    have q_I13 : FR Ws_X12_row Z I Z I13 := q_I1.trans w_I.1 w_I.2.1 (f_I13.mono (by decide))
    have u15 : (I13 v0 21).toInt = (I1 v0 21).toInt := by rw [f_I13.2.2.1 v0 12 21 kv0 (by decide) (by decide)]
    have rr12 := i_rng r12
    exact hQ (r12.toInt64) I13 L14 w_I13 q_I13 
  · skip
    first | (have t16 : ¬ (r8.toInt = (0)) := (not_congr (i_eq rfl (show (0 : Int32).toInt = 0 from rfl))).mp c10) | (have t16 : ¬ (r8.toInt = (0 : Int32).toInt) := (not_congr (i_eq rfl rfl)).mp c10) | skip
    intro b17 eb17
    obtain ⟨x18, ex18, kb17, lb17⟩ := sh_f w_I1.1 kv0 (j := 20) (k := 15) (m := 40) rfl
    cases eb17.symm.trans ex18
    have o19 : vp_in v1 40 := vi_of rfl (by omega) (by omega)
    refine ⟨o19, ?_⟩
    exact hQ (L b17 v1.toNatClampNeg) I1 L w_I1 q_I1 
