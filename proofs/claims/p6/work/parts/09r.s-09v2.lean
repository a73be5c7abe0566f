section
def Ws_X12_climb : List (Nat × Nat) := [(12, 21), (12, 22), (12, 24), (12, 25), (12, 26), (12, 27), (12, 31), (12, 32), (12, 33), (12, 34), (12, 37), (12, 38), (12, 40), (12, 41), (12, 42), (12, 43), (12, 44)]
set_option maxHeartbeats 4000000 in
set_option maxRecDepth 100000 in
theorem l_X12_climb_L58 {B : Nat × Nat} {T : Nat} {Z0 : jZ} {I0 : jI} {Q : Int32 → jZ → jI → jL → Prop} (w0 : WD Z0 I0) (v0 : Nat) (v1 : Int32) (kv0 : jk Z0 v0 12) (hQ : ∀ (r : Int32) (Z' : jZ) (I' : jI) (L' : jL), WD Z' I' → BUD B Z' T → FR Ws_X12_climb Z0 I0 Z' I' → CP Z0 Z' → Q r Z' I' L') : ∀ (n : Nat) (v2 : Int32) (Z : jZ) (I : jI) (L : jL), WD Z I → BUD B Z T → FR Ws_X12_climb Z0 I0 Z I → CP Z0 Z →   (0 ≤ v2.toInt ∧ v2.toInt ≤ 24 ∧ (I v0 21).toInt = 2 + v2.toInt) → 24 - v2.toInt < (n : Int) → f_X12_climb_L58 B  Q n v0 v2 Z I L := by
  intro n
  induction n with
  | zero =>
    intro v2 Z I L w_I bd_Z q_I cp_Z   li  me
    exfalso
    omega
  | succ n ih =>
    intro v2 Z I L w_I bd_Z q_I cp_Z   li  me
    unfold f_X12_climb_L58
    have rv2 := i_rng v2
    have rv1 := i_rng v1
    have kv0_0 := kv0
    have kv0 := (q_I.1 _ _ kv0).1
    have t1 : 0 ≤ (I v0 0).toInt ∧ (I v0 0).toInt ≤ 24 := w_I.fld 12 0 kv0 (by decide)
    have t2 : 0 ≤ (I v0 21).toInt ∧ (I v0 21).toInt ≤ 40 := w_I.fld 12 21 kv0 (by decide)
    have xq_I := q_I.1
    have t4 : 0 ≤ (I v0 43).toInt ∧ (I v0 43).toInt ≤ 24 := w_I.fld 12 43 kv0 (by decide)
    refine ⟨fun c5 => ?_, fun c5 => ?_⟩
    · skip
      first | (have t6 : (I v0 43).toInt ≤ v2.toInt := (i_le rfl rfl).mp c5) | (have t6 : (I v0 43).toInt ≤ v2.toInt := (i_le rfl rfl).mp c5) | skip
      exact hQ (I v0 41) Z I L w_I bd_Z q_I cp_Z 
    · skip
      first | (have t7 : ¬ ((I v0 43).toInt ≤ v2.toInt) := (not_congr (i_le rfl rfl)).mp c5) | (have t7 : ¬ ((I v0 43).toInt ≤ v2.toInt) := (not_congr (i_le rfl rfl)).mp c5) | skip
      intro b8 eb8
      obtain ⟨x9, ex9, kb8, lb8⟩ := sh_f w_I.1 kv0 (j := 44) (k := 14) (m := 24) rfl
      cases eb8.symm.trans ex9
      have o10 : vp_in v2 24 := vi_of rfl (by omega) (by omega)
      refine ⟨o10, ?_⟩
      have t11 : 0 ≤ (I b8 v2.toNatClampNeg).toInt ∧ (I b8 v2.toNatClampNeg).toInt ≤ 23 := w_I.arr 12 44 kv0 eb8 kb8 rfl rfl _
      refine s_X12_tell w_I v0 ((I b8 v2.toNatClampNeg).toInt64) kv0  (by omega) (fun  I13 L14 w_I13 f_I13 p12 => ?_)
      have q_I13 : FR Ws_X12_climb Z0 I0 Z I13 := q_I.trans w0.1 w0.2.1 (f_I13.mono (by decide))
      have u15 : (I13 v0 0).toInt = (I v0 0).toInt := by rw [f_I13.2.2.1 v0 12 0 kv0 (by decide) (by decide)]
      have u16 : (I13 v0 43).toInt = (I v0 43).toInt := by rw [f_I13.2.2.1 v0 12 43 kv0 (by decide) (by decide)]
      intro x17 ex17
      have rx17 := i_rng x17
      first | (have tx17 : x17.toInt = v2.toInt + (1) := by (rw [ex17]; exact (i_add rfl (show (1 : Int32).toInt = 1 from rfl) (by omega) (by omega)))) | skip
      exact ih x17 Z I13 L14 w_I13 bd_Z q_I13 cp_Z   (by omega)  (by omega)
set_option maxHeartbeats 4000000 in
set_option maxRecDepth 100000 in
theorem s_X12_climb {B : Nat × Nat} {T : Nat} {Z : jZ} {I : jI} {L : jL} (w_I : WD Z I) (bd_Z : BUD B Z T) (v0 : Nat) (v1 : Int32) (kv0 : jk Z v0 12) {Q : Int32 → jZ → jI → jL → Prop} (hQ : ∀ (r : Int32) (Z' : jZ) (I' : jI) (L' : jL), WD Z' I' → BUD B Z' T → FR Ws_X12_climb Z I Z' I' → CP Z Z' → Q r Z' I' L') : f_X12_climb B v0 v1 Z I L Q := by
  unfold f_X12_climb
  have q_I : FR Ws_X12_climb Z I Z I := FR.rf
  have cp_Z : CP Z Z := CP.rf
  have rv1 := i_rng v1
  have t18 : 0 ≤ (I v0 0).toInt ∧ (I v0 0).toInt ≤ 24 := w_I.fld 12 0 kv0 (by decide)
  have t19 : 0 ≤ (I v0 21).toInt ∧ (I v0 21).toInt ≤ 40 := w_I.fld 12 21 kv0 (by decide)
  intro I20 eI20
  have t21 : (0 : Int32).toInt = 0 := rfl
  have w_I20 : WD Z I20 := by rw [eI20]; exact WD_putF w_I 12 22 kv0 (by decide) (by decide) trivial
  have f_I20 : FR [(12, 22)] Z I Z I20 := by rw [eI20]; exact FR_putF kv0 (by decide) List.mem_cons_self
  have q_I20 : FR Ws_X12_climb Z I Z I20 := q_I.trans w_I.1 w_I.2.1 (f_I20.mono (by decide))
  have u22 : (I20 v0 0).toInt = (I v0 0).toInt := by rw [f_I20.2.2.1 v0 12 0 kv0 (by decide) (by decide)]
  have u23 : (I20 v0 21).toInt = (I v0 21).toInt := by rw [f_I20.2.2.1 v0 12 21 kv0 (by decide) (by decide)]
  first | (have u24 : (I20 v0 22).toInt = (0) := by (rw [eI20, show jpI I v0 22 (0 : Int32) v0 22 = (0 : Int32) from jpI_at] <;> exact (show (0 : Int32).toInt = 0 from rfl))) | skip
  refine s_X12_isOne w_I20 v0 v1 kv0   (fun r25 p26 => ?_)
  have rr25 := i_rng r25
  refine ⟨fun c27 => ?_, fun c27 => ?_⟩
  · skip
    first | (have t28 : r25.toInt = (0) := (i_eq rfl (show (0 : Int32).toInt = 0 from rfl)).mp c27) | (have t28 : r25.toInt = (0 : Int32).toInt := (i_eq rfl rfl).mp c27) | skip
    have t29 : (-1 : Int32).toInt = -1 := rfl
    exact hQ (-1 : Int32) Z I20 L w_I20 bd_Z q_I20 cp_Z 
  · skip
    first | (have t30 : ¬ (r25.toInt = (0)) := (not_congr (i_eq rfl (show (0 : Int32).toInt = 0 from rfl))).mp c27) | (have t30 : ¬ (r25.toInt = (0 : Int32).toInt) := (not_congr (i_eq rfl rfl)).mp c27) | skip
    have t32 : 0 ≤ (I20 v0 0).toInt ∧ (I20 v0 0).toInt ≤ 24 := w_I20.fld 12 0 kv0 (by decide)
    refine ⟨fun c33 => ?_, fun c33 => ?_⟩
    · skip
      first | (have t34 : ¬ ((I20 v0 0).toInt = (0)) := (not_congr (i_eq rfl (show (0 : Int32).toInt = 0 from rfl))).mp c33) | (have t34 : ¬ ((I20 v0 0).toInt = (0 : Int32).toInt) := (not_congr (i_eq rfl rfl)).mp c33) | skip
      obtain ⟨b35, eb35, kb35, lb35⟩ := sh_f w_I20.1 kv0 (j := 37) (k := 14) (m := 75) rfl
      obtain ⟨b36, eb36, kb36, lb36⟩ := sh_f w_I20.1 kv0 (j := 38) (k := 14) (m := 75) rfl
      obtain ⟨b37, eb37, kb37, lb37⟩ := sh_f w_I20.1 kv0 (j := 40) (k := 14) (m := 25000) rfl
      obtain ⟨b38, eb38, kb38, lb38⟩ := sh_f w_I20.1 kv0 (j := 9) (k := 14) (m := 6) rfl
      obtain ⟨b39, eb39, kb39, lb39⟩ := sh_f w_I20.1 kv0 (j := 44) (k := 14) (m := 24) rfl
      refine s_X12_findClimb w_I20 bd_Z v0 v1 kv0 b35 eb35 b36 eb36 b37 eb37 b38 eb38 b39 eb39 (by omega) (by omega) (fun r40 Z44 I42 L43 w_I42 bd_Z44 f_I42 c_Z44 p41 => ?_)
      have q_I42 : FR Ws_X12_climb Z I Z44 I42 := q_I20.trans w_I.1 w_I.2.1 (f_I42.mono (by decide))
      have cp_Z44 : CP Z Z44 := cp_Z.trans q_I20.1 c_Z44
      have x_Z44 := f_I42.1
      have k45 := (f_I42.1 _ _ kv0).1
      have k46 := (f_I42.1 _ _ kb35).1
      have l47 := (f_I42.1 _ _ kb35).2.trans lb35
      have k48 := (f_I42.1 _ _ kv0).1
      have e49 := (f_I42.2.1 v0 12 37 kv0 (by decide) (by decide)).trans eb35
      have k50 := (f_I42.1 _ _ kb36).1
      have l51 := (f_I42.1 _ _ kb36).2.trans lb36
      have k52 := (f_I42.1 _ _ kv0).1
      have e53 := (f_I42.2.1 v0 12 38 kv0 (by decide) (by decide)).trans eb36
      have k54 := (f_I42.1 _ _ kb37).1
      have l55 := (f_I42.1 _ _ kb37).2.trans lb37
      have k56 := (f_I42.1 _ _ kv0).1
      have e57 := (f_I42.2.1 v0 12 40 kv0 (by decide) (by decide)).trans eb37
      have k58 := (f_I42.1 _ _ kb38).1
      have l59 := (f_I42.1 _ _ kb38).2.trans lb38
      have k60 := (f_I42.1 _ _ kv0).1
      have e61 := (f_I42.2.1 v0 12 9 kv0 (by decide) (by decide)).trans eb38
      have k62 := (f_I42.1 _ _ kb39).1
      have l63 := (f_I42.1 _ _ kb39).2.trans lb39
      have k64 := (f_I42.1 _ _ kv0).1
      have e65 := (f_I42.2.1 v0 12 44 kv0 (by decide) (by decide)).trans eb39
      have u66 : (I42 v0 0).toInt = (I20 v0 0).toInt := by rw [f_I42.2.2.1 v0 12 0 kv0 (by decide) (by decide)]
      have u67 : (I42 v0 21).toInt = (I20 v0 21).toInt := by rw [f_I42.2.2.1 v0 12 21 kv0 (by decide) (by decide)]
      have u68 : (I42 v0 22).toInt = (I20 v0 22).toInt := by rw [f_I42.2.2.1 v0 12 22 kv0 (by decide) (by decide)]
      have rr40 := i_rng r40
      refine ⟨fun c69 => ?_, fun c69 => ?_⟩
      · skip
        first | (have t70 : ¬ (r40.toInt = (0)) := (not_congr (i_eq rfl (show (0 : Int32).toInt = 0 from rfl))).mp c69) | (have t70 : ¬ (r40.toInt = (0 : Int32).toInt) := (not_congr (i_eq rfl rfl)).mp c69) | skip
        intro I71 eI71
        have t72 : (0 : Int32).toInt = 0 := rfl
        have w_I71 : WD Z44 I71 := by rw [eI71]; exact WD_putF w_I42 12 21 k45 (by decide) (by decide) (by constructor <;> omega)
        have f_I71 : FR [(12, 21)] Z44 I42 Z44 I71 := by rw [eI71]; exact FR_putF k45 (by decide) List.mem_cons_self
        have q_I71 : FR Ws_X12_climb Z I Z44 I71 := q_I42.trans w_I.1 w_I.2.1 (f_I71.mono (by decide))
        have u73 : (I71 v0 0).toInt = (I42 v0 0).toInt := by rw [f_I71.2.2.1 v0 12 0 k45 (by decide) (by decide)]
        have u74 : (I71 v0 22).toInt = (I42 v0 22).toInt := by rw [f_I71.2.2.1 v0 12 22 k45 (by decide) (by decide)]
        first | (have u75 : (I71 v0 21).toInt = (0) := by (rw [eI71, show jpI I42 v0 21 (0 : Int32) v0 21 = (0 : Int32) from jpI_at] <;> exact (show (0 : Int32).toInt = 0 from rfl))) | skip
        refine s_X12_tell w_I71 v0 ((I71 v0 42).toInt64) k45  (by omega) (fun  I77 L78 w_I77 f_I77 p76 => ?_)
        have q_I77 : FR Ws_X12_climb Z I Z44 I77 := q_I71.trans w_I.1 w_I.2.1 (f_I77.mono (by decide))
        have u79 : (I77 v0 0).toInt = (I71 v0 0).toInt := by rw [f_I77.2.2.1 v0 12 0 k45 (by decide) (by decide)]
        have u80 : (I77 v0 22).toInt = (I71 v0 22).toInt := by rw [f_I77.2.2.1 v0 12 22 k45 (by decide) (by decide)]
        have u81 : (I77 v0 42).toInt = (I71 v0 42).toInt := by rw [f_I77.2.2.1 v0 12 42 k45 (by decide) (by decide)]
        have t83 : 0 ≤ (I77 v0 43).toInt ∧ (I77 v0 43).toInt ≤ 24 := w_I77.fld 12 43 k45 (by decide)
        refine s_X12_tell w_I77 v0 ((I77 v0 43).toInt64) k45  (by omega) (fun  I85 L86 w_I85 f_I85 p84 => ?_)
        have q_I85 : FR Ws_X12_climb Z I Z44 I85 := q_I77.trans w_I.1 w_I.2.1 (f_I85.mono (by decide))
        have u87 : (I85 v0 0).toInt = (I77 v0 0).toInt := by rw [f_I85.2.2.1 v0 12 0 k45 (by decide) (by decide)]
        have u88 : (I85 v0 22).toInt = (I77 v0 22).toInt := by rw [f_I85.2.2.1 v0 12 22 k45 (by decide) (by decide)]
        have u89 : (I85 v0 42).toInt = (I77 v0 42).toInt := by rw [f_I85.2.2.1 v0 12 42 k45 (by decide) (by decide)]
        have u90 : (I85 v0 43).toInt = (I77 v0 43).toInt := by rw [f_I85.2.2.1 v0 12 43 k45 (by decide) (by decide)]
        have t91 : (0 : Int32).toInt = 0 := rfl
        exact ⟨(24 - (0 : Int32).toInt).toNat + 1, l_X12_climb_L58 w_I v0 v1 kv0   hQ   _ (0 : Int32) Z44 I85 L86 w_I85 bd_Z44 q_I85 cp_Z44   (by omega)  (by omega)⟩
      · skip
        first | (have t92 : r40.toInt = (0) := (i_eq rfl (show (0 : Int32).toInt = 0 from rfl)).mp c69) | (have t92 : r40.toInt = (0 : Int32).toInt := (i_eq rfl rfl).mp c69) | skip
        have t93 : (-2 : Int32).toInt = -2 := rfl
        exact hQ (-2 : Int32) Z44 I42 L43 w_I42 bd_Z44 q_I42 cp_Z44 
    · skip
      first | (have t94 : (I20 v0 0).toInt = (0) := (i_eq rfl (show (0 : Int32).toInt = 0 from rfl)).mp c33) | (have t94 : (I20 v0 0).toInt = (0 : Int32).toInt := (i_eq rfl rfl).mp c33) | skip
      have t95 : (-1 : Int32).toInt = -1 := rfl
      exact hQ (-1 : Int32) Z I20 L w_I20 bd_Z q_I20 cp_Z 
def Ws_X12_knees : List (Nat × Nat) := [(12, 21), (12, 22), (12, 24), (12, 25), (12, 26), (12, 27), (12, 31), (12, 32), (12, 33), (12, 34), (12, 37), (12, 38), (12, 40)]
set_option maxHeartbeats 4000000 in
set_option maxRecDepth 100000 in
theorem l_X12_knees_L36 {B : Nat × Nat} {T : Nat} {Z0 : jZ} {I0 : jI} {Q : Int32 → jZ → jI → jL → Prop} (w0 : WD Z0 I0) (v0 : Nat) (v1 : Int32) (kv0 : jk Z0 v0 12) (hQ : ∀ (r : Int32) (Z' : jZ) (I' : jI) (L' : jL), WD Z' I' → BUD B Z' T → FR Ws_X12_knees Z0 I0 Z' I' → CP Z0 Z' → Q r Z' I' L') : ∀ (n : Nat) (v2 : Int32) (Z : jZ) (I : jI) (L : jL), WD Z I → BUD B Z T → FR Ws_X12_knees Z0 I0 Z I → CP Z0 Z →   (0 ≤ v2.toInt ∧ v2.toInt ≤ 1000 ∧ 0 ≤ v1.toInt ∧ v1.toInt ≤ 5) → 1000 - v2.toInt < (n : Int) → f_X12_knees_L36 B  Q n v0 v1 v2 Z I L := by
  intro n
  induction n with
  | zero =>
    intro v2 Z I L w_I bd_Z q_I cp_Z   li  me
    exfalso
    omega
  | succ n ih =>
    intro v2 Z I L w_I bd_Z q_I cp_Z   li  me
    unfold f_X12_knees_L36
    have rv2 := i_rng v2
    have rv1 := i_rng v1
    have kv0_0 := kv0
    have kv0 := (q_I.1 _ _ kv0).1
    have t1 : 0 ≤ (I v0 0).toInt ∧ (I v0 0).toInt ≤ 24 := w_I.fld 12 0 kv0 (by decide)
    have xq_I := q_I.1
    refine ⟨fun c2 => ?_, fun c2 => ?_⟩
    · skip
      first | (have t3 : (999) < v2.toInt := (i_lt (show (999 : Int32).toInt = 999 from rfl) rfl).mp c2) | (have t3 : (999 : Int32).toInt < v2.toInt := (i_lt rfl rfl).mp c2) | skip
      have t4 : (-2 : Int32).toInt = -2 := rfl
      exact hQ (-2 : Int32) Z I L w_I bd_Z q_I cp_Z 
    · skip
      first | (have t5 : ¬ ((999) < v2.toInt) := (not_congr (i_lt (show (999 : Int32).toInt = 999 from rfl) rfl)).mp c2) | (have t5 : ¬ ((999 : Int32).toInt < v2.toInt) := (not_congr (i_lt rfl rfl)).mp c2) | skip
      intro b6 eb6
      obtain ⟨x7, ex7, kb6, lb6⟩ := sh_f w_I.1 kv0 (j := 40) (k := 14) (m := 25000) rfl
      cases eb6.symm.trans ex7
      have o8 : vp_in v2 25000 := vi_of rfl (by omega) (by omega)
      refine ⟨o8, ?_⟩
      refine ⟨fun c9 => ?_, fun c9 => ?_⟩
      · skip
        first | (have t10 : (I b6 v2.toNatClampNeg).toInt = (1000000000) := (i_eq rfl (show (1000000000 : Int32).toInt = 1000000000 from rfl)).mp c9) | (have t10 : (I b6 v2.toNatClampNeg).toInt = (1000000000 : Int32).toInt := (i_eq rfl rfl).mp c9) | skip
        unfold f_X12_knees_b97
        intro x11 ex11
        have rx11 := i_rng x11
        first | (have tx11 : x11.toInt = v2.toInt + (1) := by (rw [ex11]; exact (i_add rfl (show (1 : Int32).toInt = 1 from rfl) (by omega) (by omega)))) | skip
        exact ih x11 Z I L w_I bd_Z q_I cp_Z   (by omega)  (by omega)
      · skip
        first | (have t12 : ¬ ((I b6 v2.toNatClampNeg).toInt = (1000000000)) := (not_congr (i_eq rfl (show (1000000000 : Int32).toInt = 1000000000 from rfl))).mp c9) | (have t12 : ¬ ((I b6 v2.toNatClampNeg).toInt = (1000000000 : Int32).toInt) := (not_congr (i_eq rfl rfl)).mp c9) | skip
        intro b13 eb13
        obtain rfl : b6 = b13 := Option.some.inj (eb6.symm.trans eb13)
        have o14 : vp_in v2 25000 := vi_of rfl (by omega) (by omega)
        refine ⟨o14, ?_⟩
        intro b15 eb15
        obtain ⟨x16, ex16, kb15, lb15⟩ := sh_f w_I.1 kv0 (j := 10) (k := 14) (m := 6) rfl
        cases eb15.symm.trans ex16
        have o17 : vp_in v1 6 := vi_of rfl (by omega) (by omega)
        refine ⟨o17, ?_⟩
        have t18 : 0 ≤ (I b15 v1.toNatClampNeg).toInt ∧ (I b15 v1.toNatClampNeg).toInt ≤ 999 := w_I.arr 12 10 kv0 eb15 kb15 rfl rfl _
        refine ⟨fun c19 => ?_, fun c19 => ?_⟩
        · skip
          first | (have t20 : ((I b6 v2.toNatClampNeg).toInt / (100)) ≤ (I b15 v1.toNatClampNeg).toInt := (i_le (i_div rfl (show (100 : Int32).toInt = 100 from rfl) (by omega) (by omega)) rfl).mp c19) | (have t20 : ((I b6 v2.toNatClampNeg) / (100 : Int32)).toInt ≤ (I b15 v1.toNatClampNeg).toInt := (i_le rfl rfl).mp c19) | skip
          intro I21 eI21
          have t22 : (0 : Int32).toInt = 0 := rfl
          have w_I21 : WD Z I21 := by rw [eI21]; exact WD_putF w_I 12 21 kv0 (by decide) (by decide) (by constructor <;> omega)
          have f_I21 : FR [(12, 21)] Z I Z I21 := by rw [eI21]; exact FR_putF kv0 (by decide) List.mem_cons_self
          have q_I21 : FR Ws_X12_knees Z0 I0 Z I21 := q_I.trans w0.1 w0.2.1 (f_I21.mono (by decide))
          have u23 : (I21 v0 0).toInt = (I v0 0).toInt := by rw [f_I21.2.2.1 v0 12 0 kv0 (by decide) (by decide)]
          first | (have u24 : (I21 v0 21).toInt = (0) := by (rw [eI21, show jpI I v0 21 (0 : Int32) v0 21 = (0 : Int32) from jpI_at] <;> exact (show (0 : Int32).toInt = 0 from rfl))) | skip
          intro b25 eb25
          obtain rfl : b6 = b25 := Option.some.inj (eb6.symm.trans eb25)
          have o26 : vp_in v2 25000 := vi_of rfl (by omega) (by omega)
          refine ⟨o26, ?_⟩
          refine s_X12_tell w_I21 v0 (((I21 b6 v2.toNatClampNeg) / (100 : Int32)).toInt64) kv0  (by omega) (fun  I28 L29 w_I28 f_I28 p27 => ?_)
          have q_I28 : FR Ws_X12_knees Z0 I0 Z I28 := q_I21.trans w0.1 w0.2.1 (f_I28.mono (by decide))
          have u30 : (I28 v0 0).toInt = (I21 v0 0).toInt := by rw [f_I28.2.2.1 v0 12 0 kv0 (by decide) (by decide)]
          exact hQ v2 Z I28 L29 w_I28 bd_Z q_I28 cp_Z 
        · skip
          first | (have t31 : ¬ (((I b6 v2.toNatClampNeg).toInt / (100)) ≤ (I b15 v1.toNatClampNeg).toInt) := (not_congr (i_le (i_div rfl (show (100 : Int32).toInt = 100 from rfl) (by omega) (by omega)) rfl)).mp c19) | (have t31 : ¬ (((I b6 v2.toNatClampNeg) / (100 : Int32)).toInt ≤ (I b15 v1.toNatClampNeg).toInt) := (not_congr (i_le rfl rfl)).mp c19) | skip
          unfold f_X12_knees_b97
          intro x32 ex32
          have rx32 := i_rng x32
          first | (have tx32 : x32.toInt = v2.toInt + (1) := by (rw [ex32]; exact (i_add rfl (show (1 : Int32).toInt = 1 from rfl) (by omega) (by omega)))) | skip
          exact ih x32 Z I L w_I bd_Z q_I cp_Z   (by omega)  (by omega)
set_option maxHeartbeats 4000000 in
set_option maxRecDepth 100000 in
theorem s_X12_knees {B : Nat × Nat} {T : Nat} {Z : jZ} {I : jI} {L : jL} (w_I : WD Z I) (bd_Z : BUD B Z T) (v0 : Nat) (v1 : Int32) (kv0 : jk Z v0 12) {Q : Int32 → jZ → jI → jL → Prop} (hQ : ∀ (r : Int32) (Z' : jZ) (I' : jI) (L' : jL), WD Z' I' → BUD B Z' T → FR Ws_X12_knees Z I Z' I' → CP Z Z' → Q r Z' I' L') : f_X12_knees B v0 v1 Z I L Q := by
  unfold f_X12_knees
  have q_I : FR Ws_X12_knees Z I Z I := FR.rf
  have cp_Z : CP Z Z := CP.rf
  have rv1 := i_rng v1
  have t33 : 0 ≤ (I v0 0).toInt ∧ (I v0 0).toInt ≤ 24 := w_I.fld 12 0 kv0 (by decide)
  intro I34 eI34
  have t35 : (0 : Int32).toInt = 0 := rfl
  have w_I34 : WD Z I34 := by rw [eI34]; exact WD_putF w_I 12 22 kv0 (by decide) (by decide) trivial
  have f_I34 : FR [(12, 22)] Z I Z I34 := by rw [eI34]; exact FR_putF kv0 (by decide) List.mem_cons_self
  have q_I34 : FR Ws_X12_knees Z I Z I34 := q_I.trans w_I.1 w_I.2.1 (f_I34.mono (by decide))
  have u36 : (I34 v0 0).toInt = (I v0 0).toInt := by rw [f_I34.2.2.1 v0 12 0 kv0 (by decide) (by decide)]
  first | (have u37 : (I34 v0 22).toInt = (0) := by (rw [eI34, show jpI I v0 22 (0 : Int32) v0 22 = (0 : Int32) from jpI_at] <;> exact (show (0 : Int32).toInt = 0 from rfl))) | skip
  refine s_X12_isOne w_I34 v0 v1 kv0   (fun r38 p39 => ?_)
  have rr38 := i_rng r38
  refine ⟨fun c40 => ?_, fun c40 => ?_⟩
  · skip
    first | (have t41 : r38.toInt = (0) := (i_eq rfl (show (0 : Int32).toInt = 0 from rfl)).mp c40) | (have t41 : r38.toInt = (0 : Int32).toInt := (i_eq rfl rfl).mp c40) | skip
    have t42 : (-1 : Int32).toInt = -1 := rfl
    exact hQ (-1 : Int32) Z I34 L w_I34 bd_Z q_I34 cp_Z 
  · skip
    first | (have t43 : ¬ (r38.toInt = (0)) := (not_congr (i_eq rfl (show (0 : Int32).toInt = 0 from rfl))).mp c40) | (have t43 : ¬ (r38.toInt = (0 : Int32).toInt) := (not_congr (i_eq rfl rfl)).mp c40) | skip
    have t45 : 0 ≤ (I34 v0 0).toInt ∧ (I34 v0 0).toInt ≤ 24 := w_I34.fld 12 0 kv0 (by decide)
    refine ⟨fun c46 => ?_, fun c46 => ?_⟩
    · skip
      first | (have t47 : ¬ ((I34 v0 0).toInt = (0)) := (not_congr (i_eq rfl (show (0 : Int32).toInt = 0 from rfl))).mp c46) | (have t47 : ¬ ((I34 v0 0).toInt = (0 : Int32).toInt) := (not_congr (i_eq rfl rfl)).mp c46) | skip
      obtain ⟨b48, eb48, kb48, lb48⟩ := sh_f w_I34.1 kv0 (j := 37) (k := 14) (m := 75) rfl
      obtain ⟨b49, eb49, kb49, lb49⟩ := sh_f w_I34.1 kv0 (j := 38) (k := 14) (m := 75) rfl
      refine s_X12_layMoves w_I34 bd_Z v0 v1 kv0 b48 eb48 b49 eb49 (by omega) (fun  Z53 I51 L52 w_I51 bd_Z53 f_I51 c_Z53 p50 => ?_)
      have q_I51 : FR Ws_X12_knees Z I Z53 I51 := q_I34.trans w_I.1 w_I.2.1 (f_I51.mono (by decide))
      have cp_Z53 : CP Z Z53 := cp_Z.trans q_I34.1 c_Z53
      have x_Z53 := f_I51.1
      have k54 := (f_I51.1 _ _ kv0).1
      have k55 := (f_I51.1 _ _ kb48).1
      have l56 := (f_I51.1 _ _ kb48).2.trans lb48
      have k57 := (f_I51.1 _ _ kv0).1
      have e58 := (f_I51.2.1 v0 12 37 kv0 (by decide) (by decide)).trans eb48
      have k59 := (f_I51.1 _ _ kb49).1
      have l60 := (f_I51.1 _ _ kb49).2.trans lb49
      have k61 := (f_I51.1 _ _ kv0).1
      have e62 := (f_I51.2.1 v0 12 38 kv0 (by decide) (by decide)).trans eb49
      have u63 : (I51 v0 0).toInt = (I34 v0 0).toInt := by rw [f_I51.2.2.1 v0 12 0 kv0 (by decide) (by decide)]
      have u64 : (I51 v0 22).toInt = (I34 v0 22).toInt := by rw [f_I51.2.2.1 v0 12 22 kv0 (by decide) (by decide)]
      have t65 : (999 : Int32).toInt = 999 := rfl
      obtain ⟨b66, eb66, kb66, lb66⟩ := sh_f w_I51.1 k54 (j := 40) (k := 14) (m := 25000) rfl
      refine s_X12_findByEffort w_I51 v0 (999 : Int32) k54 b48 e58 b49 e62 b66 eb66 (by assumption) (by omega) (fun  I68 L69 w_I68 f_I68 p67 => ?_)
      have q_I68 : FR Ws_X12_knees Z I Z53 I68 := q_I51.trans w_I.1 w_I.2.1 (f_I68.mono (by decide))
      have u70 : (I68 v0 0).toInt = (I51 v0 0).toInt := by rw [f_I68.2.2.1 v0 12 0 k54 (by decide) (by decide)]
      have u71 : (I68 v0 22).toInt = (I51 v0 22).toInt := by rw [f_I68.2.2.1 v0 12 22 k54 (by decide) (by decide)]
      have t72 : (0 : Int32).toInt = 0 := rfl
      exact ⟨(1000 - (0 : Int32).toInt).toNat + 1, l_X12_knees_L36 w_I v0 v1 kv0   hQ   _ (0 : Int32) Z53 I68 L69 w_I68 bd_Z53 q_I68 cp_Z53   (by omega)  (by omega)⟩
    · skip
      first | (have t73 : (I34 v0 0).toInt = (0) := (i_eq rfl (show (0 : Int32).toInt = 0 from rfl)).mp c46) | (have t73 : (I34 v0 0).toInt = (0 : Int32).toInt := (i_eq rfl rfl).mp c46) | skip
      have t74 : (-1 : Int32).toInt = -1 := rfl
      exact hQ (-1 : Int32) Z I34 L w_I34 bd_Z q_I34 cp_Z 
def Ws_X12_bears : List (Nat × Nat) := [(12, 12), (12, 21), (12, 22), (12, 24), (12, 25), (12, 26), (12, 27), (12, 31), (12, 32), (12, 33), (12, 34), (12, 37), (12, 38), (12, 40), (12, 41), (12, 42), (12, 43), (12, 44)]
set_option maxHeartbeats 4000000 in
set_option maxRecDepth 100000 in
theorem l_X12_bears_L36 {B : Nat × Nat} {T : Nat} {Z0 : jZ} {I0 : jI} {Q : Int32 → jZ → jI → jL → Prop} (w0 : WD Z0 I0) (v0 : Nat) (v1 : Int32) (kv0 : jk Z0 v0 12) (v2 : Int32) (hQ : ∀ (r : Int32) (Z' : jZ) (I' : jI) (L' : jL), WD Z' I' → BUD B Z' T → FR Ws_X12_bears Z0 I0 Z' I' → CP Z0 Z' → Q r Z' I' L') : ∀ (n : Nat) (v3 : Int32) (v4 : Int32) (Z : jZ) (I : jI) (L : jL), WD Z I → BUD B Z T → FR Ws_X12_bears Z0 I0 Z I → CP Z0 Z →   (-1 ≤ v4.toInt ∧ v4.toInt ≤ 50 ∧ 0 ≤ v1.toInt ∧ v1.toInt ≤ 5 ∧ 0 ≤ v2.toInt ∧ v2.toInt ≤ 50 ∧ 1 ≤ (I v0 0).toInt) → v4.toInt + 1 < (n : Int) → f_X12_bears_L36 B  Q n v0 v1 v2 v3 v4 Z I L := by
  intro n
  induction n with
  | zero =>
    intro v3 v4 Z I L w_I bd_Z q_I cp_Z   li  me
    exfalso
    omega
  | succ n ih =>
    intro v3 v4 Z I L w_I bd_Z q_I cp_Z   li  me
    unfold f_X12_bears_L36
    have rv3 := i_rng v3
    have rv4 := i_rng v4
    have rv2 := i_rng v2
    have rv1 := i_rng v1
    have kv0_0 := kv0
    have kv0 := (q_I.1 _ _ kv0).1
    have t1 : 0 ≤ (I v0 0).toInt ∧ (I v0 0).toInt ≤ 24 := w_I.fld 12 0 kv0 (by decide)
    have xq_I := q_I.1
    refine ⟨fun c2 => ?_, fun c2 => ?_⟩
    · skip
      first | (have t3 : v4.toInt < (0) := (i_lt rfl (show (0 : Int32).toInt = 0 from rfl)).mp c2) | (have t3 : v4.toInt < (0 : Int32).toInt := (i_lt rfl rfl).mp c2) | skip
      unfold f_X12_bears_b70
      intro b4 eb4
      obtain ⟨x5, ex5, kb4, lb4⟩ := sh_f w_I.1 kv0 (j := 12) (k := 14) (m := 6) rfl
      cases eb4.symm.trans ex5
      have o6 : vp_in v1 6 := vi_of rfl (by omega) (by omega)
      refine ⟨o6, ?_⟩
      intro I7 eI7
      have w_I7 : WD Z I7 := by rw [eI7]; exact WD_putA w_I 12 12 kv0 eb4 kb4 rfl rfl (by decide) (by constructor <;> omega)
      have f_I7 : FR [(12, 12)] Z I Z I7 := by rw [eI7]; exact FR_upA w_I.2.1 kv0 eb4 kb4 rfl rfl List.mem_cons_self
      have q_I7 : FR Ws_X12_bears Z0 I0 Z I7 := q_I.trans w0.1 w0.2.1 (f_I7.mono (by decide))
      have u8 : (I7 v0 0).toInt = (I v0 0).toInt := by rw [f_I7.2.2.1 v0 12 0 kv0 (by decide) (by decide)]
      refine ⟨fun c9 => ?_, fun c9 => ?_⟩
      · skip
        first | (have t10 : (0) ≤ v3.toInt := (i_le (show (0 : Int32).toInt = 0 from rfl) rfl).mp c9) | (have t10 : (0 : Int32).toInt ≤ v3.toInt := (i_le rfl rfl).mp c9) | skip
        intro I11 eI11
        have t12 : (0 : Int32).toInt = 0 := rfl
        have w_I11 : WD Z I11 := by rw [eI11]; exact WD_putF w_I7 12 21 kv0 (by decide) (by decide) (by constructor <;> omega)
        have f_I11 : FR [(12, 21)] Z I7 Z I11 := by rw [eI11]; exact FR_putF kv0 (by decide) List.mem_cons_self
        have q_I11 : FR Ws_X12_bears Z0 I0 Z I11 := q_I7.trans w0.1 w0.2.1 (f_I11.mono (by decide))
        have u13 : (I11 v0 0).toInt = (I7 v0 0).toInt := by rw [f_I11.2.2.1 v0 12 0 kv0 (by decide) (by decide)]
        first | (have u14 : (I11 v0 21).toInt = (0) := by (rw [eI11, show jpI I7 v0 21 (0 : Int32) v0 21 = (0 : Int32) from jpI_at] <;> exact (show (0 : Int32).toInt = 0 from rfl))) | skip
        refine s_X12_tell w_I11 v0 ((I11 v0 41).toInt64) kv0  (by omega) (fun  I16 L17 w_I16 f_I16 p15 => ?_)
        have q_I16 : FR Ws_X12_bears Z0 I0 Z I16 := q_I11.trans w0.1 w0.2.1 (f_I16.mono (by decide))
        have u18 : (I16 v0 0).toInt = (I11 v0 0).toInt := by rw [f_I16.2.2.1 v0 12 0 kv0 (by decide) (by decide)]
        have u19 : (I16 v0 41).toInt = (I11 v0 41).toInt := by rw [f_I16.2.2.1 v0 12 41 kv0 (by decide) (by decide)]
        exact hQ v3 Z I16 L17 w_I16 bd_Z q_I16 cp_Z 
      · skip
        first | (have t20 : ¬ ((0) ≤ v3.toInt) := (not_congr (i_le (show (0 : Int32).toInt = 0 from rfl) rfl)).mp c9) | (have t20 : ¬ ((0 : Int32).toInt ≤ v3.toInt) := (not_congr (i_le rfl rfl)).mp c9) | skip
        have t21 : (-2 : Int32).toInt = -2 := rfl
        exact hQ (-2 : Int32) Z I7 L w_I7 bd_Z q_I7 cp_Z 
    · skip
      first | (have t22 : ¬ (v4.toInt < (0)) := (not_congr (i_lt rfl (show (0 : Int32).toInt = 0 from rfl))).mp c2) | (have t22 : ¬ (v4.toInt < (0 : Int32).toInt) := (not_congr (i_lt rfl rfl)).mp c2) | skip
      refine ⟨fun c23 => ?_, fun c23 => ?_⟩
      · skip
        first | (have t24 : (0) ≤ v3.toInt := (i_le (show (0 : Int32).toInt = 0 from rfl) rfl).mp c23) | (have t24 : (0 : Int32).toInt ≤ v3.toInt := (i_le rfl rfl).mp c23) | skip
        unfold f_X12_bears_b70
        intro b25 eb25
        obtain ⟨x26, ex26, kb25, lb25⟩ := sh_f w_I.1 kv0 (j := 12) (k := 14) (m := 6) rfl
        cases eb25.symm.trans ex26
        have o27 : vp_in v1 6 := vi_of rfl (by omega) (by omega)
        refine ⟨o27, ?_⟩
        intro I28 eI28
        have w_I28 : WD Z I28 := by rw [eI28]; exact WD_putA w_I 12 12 kv0 eb25 kb25 rfl rfl (by decide) (by constructor <;> omega)
        have f_I28 : FR [(12, 12)] Z I Z I28 := by rw [eI28]; exact FR_upA w_I.2.1 kv0 eb25 kb25 rfl rfl List.mem_cons_self
        have q_I28 : FR Ws_X12_bears Z0 I0 Z I28 := q_I.trans w0.1 w0.2.1 (f_I28.mono (by decide))
        have u29 : (I28 v0 0).toInt = (I v0 0).toInt := by rw [f_I28.2.2.1 v0 12 0 kv0 (by decide) (by decide)]
        refine ⟨fun c30 => ?_, fun c30 => ?_⟩
        · skip
          first | (have t31 : (0) ≤ v3.toInt := (i_le (show (0 : Int32).toInt = 0 from rfl) rfl).mp c30) | (have t31 : (0 : Int32).toInt ≤ v3.toInt := (i_le rfl rfl).mp c30) | skip
          intro I32 eI32
          have t33 : (0 : Int32).toInt = 0 := rfl
          have w_I32 : WD Z I32 := by rw [eI32]; exact WD_putF w_I28 12 21 kv0 (by decide) (by decide) (by constructor <;> omega)
          have f_I32 : FR [(12, 21)] Z I28 Z I32 := by rw [eI32]; exact FR_putF kv0 (by decide) List.mem_cons_self
          have q_I32 : FR Ws_X12_bears Z0 I0 Z I32 := q_I28.trans w0.1 w0.2.1 (f_I32.mono (by decide))
          have u34 : (I32 v0 0).toInt = (I28 v0 0).toInt := by rw [f_I32.2.2.1 v0 12 0 kv0 (by decide) (by decide)]
          first | (have u35 : (I32 v0 21).toInt = (0) := by (rw [eI32, show jpI I28 v0 21 (0 : Int32) v0 21 = (0 : Int32) from jpI_at] <;> exact (show (0 : Int32).toInt = 0 from rfl))) | skip
          refine s_X12_tell w_I32 v0 ((I32 v0 41).toInt64) kv0  (by omega) (fun  I37 L38 w_I37 f_I37 p36 => ?_)
          have q_I37 : FR Ws_X12_bears Z0 I0 Z I37 := q_I32.trans w0.1 w0.2.1 (f_I37.mono (by decide))
          have u39 : (I37 v0 0).toInt = (I32 v0 0).toInt := by rw [f_I37.2.2.1 v0 12 0 kv0 (by decide) (by decide)]
          have u40 : (I37 v0 41).toInt = (I32 v0 41).toInt := by rw [f_I37.2.2.1 v0 12 41 kv0 (by decide) (by decide)]
          exact hQ v3 Z I37 L38 w_I37 bd_Z q_I37 cp_Z 
        · skip
          first | (have t41 : ¬ ((0) ≤ v3.toInt) := (not_congr (i_le (show (0 : Int32).toInt = 0 from rfl) rfl)).mp c30) | (have t41 : ¬ ((0 : Int32).toInt ≤ v3.toInt) := (not_congr (i_le rfl rfl)).mp c30) | skip
          have t42 : (-2 : Int32).toInt = -2 := rfl
          exact hQ (-2 : Int32) Z I28 L w_I28 bd_Z q_I28 cp_Z 
      · skip
        first | (have t43 : ¬ ((0) ≤ v3.toInt) := (not_congr (i_le (show (0 : Int32).toInt = 0 from rfl) rfl)).mp c23) | (have t43 : ¬ ((0 : Int32).toInt ≤ v3.toInt) := (not_congr (i_le rfl rfl)).mp c23) | skip
        intro b44 eb44
        obtain ⟨x45, ex45, kb44, lb44⟩ := sh_f w_I.1 kv0 (j := 12) (k := 14) (m := 6) rfl
        cases eb44.symm.trans ex45
        have o46 : vp_in v1 6 := vi_of rfl (by omega) (by omega)
        refine ⟨o46, ?_⟩
        intro I47 eI47
        have w_I47 : WD Z I47 := by rw [eI47]; exact WD_putA w_I 12 12 kv0 eb44 kb44 rfl rfl (by decide) (by constructor <;> omega)
        have f_I47 : FR [(12, 12)] Z I Z I47 := by rw [eI47]; exact FR_upA w_I.2.1 kv0 eb44 kb44 rfl rfl List.mem_cons_self
        have q_I47 : FR Ws_X12_bears Z0 I0 Z I47 := q_I.trans w0.1 w0.2.1 (f_I47.mono (by decide))
        have u48 : (I47 v0 0).toInt = (I v0 0).toInt := by rw [f_I47.2.2.1 v0 12 0 kv0 (by decide) (by decide)]
        obtain ⟨b49, eb49, kb49, lb49⟩ := sh_f w_I47.1 kv0 (j := 37) (k := 14) (m := 75) rfl
        obtain ⟨b50, eb50, kb50, lb50⟩ := sh_f w_I47.1 kv0 (j := 38) (k := 14) (m := 75) rfl
        obtain ⟨b51, eb51, kb51, lb51⟩ := sh_f w_I47.1 kv0 (j := 40) (k := 14) (m := 25000) rfl
        obtain ⟨b52, eb52, kb52, lb52⟩ := sh_f w_I47.1 kv0 (j := 9) (k := 14) (m := 6) rfl
        obtain ⟨b53, eb53, kb53, lb53⟩ := sh_f w_I47.1 kv0 (j := 44) (k := 14) (m := 24) rfl
        refine s_X12_findClimb w_I47 bd_Z v0 v1 kv0 b49 eb49 b50 eb50 b51 eb51 b52 eb52 b53 eb53 (by omega) (by omega) (fun r54 Z58 I56 L57 w_I56 bd_Z58 f_I56 c_Z58 p55 => ?_)
        have q_I56 : FR Ws_X12_bears Z0 I0 Z58 I56 := q_I47.trans w0.1 w0.2.1 (f_I56.mono (by decide))
        have cp_Z58 : CP Z0 Z58 := cp_Z.trans q_I47.1 c_Z58
        have x_Z58 := f_I56.1
        have k59 := (f_I56.1 _ _ kv0).1
        have k60 := (f_I56.1 _ _ kb44).1
        have l61 := (f_I56.1 _ _ kb44).2.trans lb44
        have k62 := (f_I56.1 _ _ kv0).1
        have e63 := (f_I56.2.1 v0 12 12 kv0 (by decide) (by decide)).trans eb44
        have k64 := (f_I56.1 _ _ kb49).1
        have l65 := (f_I56.1 _ _ kb49).2.trans lb49
        have k66 := (f_I56.1 _ _ kv0).1
        have e67 := (f_I56.2.1 v0 12 37 kv0 (by decide) (by decide)).trans eb49
        have k68 := (f_I56.1 _ _ kb50).1
        have l69 := (f_I56.1 _ _ kb50).2.trans lb50
        have k70 := (f_I56.1 _ _ kv0).1
        have e71 := (f_I56.2.1 v0 12 38 kv0 (by decide) (by decide)).trans eb50
        have k72 := (f_I56.1 _ _ kb51).1
        have l73 := (f_I56.1 _ _ kb51).2.trans lb51
        have k74 := (f_I56.1 _ _ kv0).1
        have e75 := (f_I56.2.1 v0 12 40 kv0 (by decide) (by decide)).trans eb51
        have k76 := (f_I56.1 _ _ kb52).1
        have l77 := (f_I56.1 _ _ kb52).2.trans lb52
        have k78 := (f_I56.1 _ _ kv0).1
        have e79 := (f_I56.2.1 v0 12 9 kv0 (by decide) (by decide)).trans eb52
        have k80 := (f_I56.1 _ _ kb53).1
        have l81 := (f_I56.1 _ _ kb53).2.trans lb53
        have k82 := (f_I56.1 _ _ kv0).1
        have e83 := (f_I56.2.1 v0 12 44 kv0 (by decide) (by decide)).trans eb53
        have u84 : (I56 v0 0).toInt = (I47 v0 0).toInt := by rw [f_I56.2.2.1 v0 12 0 kv0 (by decide) (by decide)]
        have rr54 := i_rng r54
        refine ⟨fun c85 => ?_, fun c85 => ?_⟩
        · skip
          first | (have t86 : r54.toInt = (0) := (i_eq rfl (show (0 : Int32).toInt = 0 from rfl)).mp c85) | (have t86 : r54.toInt = (0 : Int32).toInt := (i_eq rfl rfl).mp c85) | skip
          unfold f_X12_bears_b64
          intro x87 ex87
          have rx87 := i_rng x87
          first | (have tx87 : x87.toInt = v4.toInt + (-1) := by (rw [ex87]; exact (i_add rfl (show (-1 : Int32).toInt = -1 from rfl) (by omega) (by omega)))) | skip
          exact ih v3 x87 Z58 I56 L57 w_I56 bd_Z58 q_I56 cp_Z58   (by omega)  (by omega)
        · skip
          first | (have t88 : ¬ (r54.toInt = (0)) := (not_congr (i_eq rfl (show (0 : Int32).toInt = 0 from rfl))).mp c85) | (have t88 : ¬ (r54.toInt = (0 : Int32).toInt) := (not_congr (i_eq rfl rfl)).mp c85) | skip
          unfold f_X12_bears_b64
          intro x89 ex89
          have rx89 := i_rng x89
          first | (have tx89 : x89.toInt = v4.toInt + (-1) := by (rw [ex89]; exact (i_add rfl (show (-1 : Int32).toInt = -1 from rfl) (by omega) (by omega)))) | skip
          exact ih v4 x89 Z58 I56 L57 w_I56 bd_Z58 q_I56 cp_Z58   (by omega)  (by omega)
set_option maxHeartbeats 4000000 in
set_option maxRecDepth 100000 in
theorem s_X12_bears {B : Nat × Nat} {T : Nat} {Z : jZ} {I : jI} {L : jL} (w_I : WD Z I) (bd_Z : BUD B Z T) (v0 : Nat) (v1 : Int32) (kv0 : jk Z v0 12) {Q : Int32 → jZ → jI → jL → Prop} (hQ : ∀ (r : Int32) (Z' : jZ) (I' : jI) (L' : jL), WD Z' I' → BUD B Z' T → FR Ws_X12_bears Z I Z' I' → CP Z Z' → Q r Z' I' L') : f_X12_bears B v0 v1 Z I L Q := by
  unfold f_X12_bears
  have q_I : FR Ws_X12_bears Z I Z I := FR.rf
  have cp_Z : CP Z Z := CP.rf
  have rv1 := i_rng v1
  have t90 : 0 ≤ (I v0 0).toInt ∧ (I v0 0).toInt ≤ 24 := w_I.fld 12 0 kv0 (by decide)
  intro I91 eI91
  have t92 : (0 : Int32).toInt = 0 := rfl
  have w_I91 : WD Z I91 := by rw [eI91]; exact WD_putF w_I 12 22 kv0 (by decide) (by decide) trivial
  have f_I91 : FR [(12, 22)] Z I Z I91 := by rw [eI91]; exact FR_putF kv0 (by decide) List.mem_cons_self
  have q_I91 : FR Ws_X12_bears Z I Z I91 := q_I.trans w_I.1 w_I.2.1 (f_I91.mono (by decide))
  have u93 : (I91 v0 0).toInt = (I v0 0).toInt := by rw [f_I91.2.2.1 v0 12 0 kv0 (by decide) (by decide)]
  first | (have u94 : (I91 v0 22).toInt = (0) := by (rw [eI91, show jpI I v0 22 (0 : Int32) v0 22 = (0 : Int32) from jpI_at] <;> exact (show (0 : Int32).toInt = 0 from rfl))) | skip
  refine s_X12_isOne w_I91 v0 v1 kv0   (fun r95 p96 => ?_)
  have rr95 := i_rng r95
  refine ⟨fun c97 => ?_, fun c97 => ?_⟩
  · skip
    first | (have t98 : r95.toInt = (0) := (i_eq rfl (show (0 : Int32).toInt = 0 from rfl)).mp c97) | (have t98 : r95.toInt = (0 : Int32).toInt := (i_eq rfl rfl).mp c97) | skip
    have t99 : (-1 : Int32).toInt = -1 := rfl
    exact hQ (-1 : Int32) Z I91 L w_I91 bd_Z q_I91 cp_Z 
  · skip
    first | (have t100 : ¬ (r95.toInt = (0)) := (not_congr (i_eq rfl (show (0 : Int32).toInt = 0 from rfl))).mp c97) | (have t100 : ¬ (r95.toInt = (0 : Int32).toInt) := (not_congr (i_eq rfl rfl)).mp c97) | skip
    have t102 : 0 ≤ (I91 v0 0).toInt ∧ (I91 v0 0).toInt ≤ 24 := w_I91.fld 12 0 kv0 (by decide)
    refine ⟨fun c103 => ?_, fun c103 => ?_⟩
    · skip
      first | (have t104 : ¬ ((I91 v0 0).toInt = (0)) := (not_congr (i_eq rfl (show (0 : Int32).toInt = 0 from rfl))).mp c103) | (have t104 : ¬ ((I91 v0 0).toInt = (0 : Int32).toInt) := (not_congr (i_eq rfl rfl)).mp c103) | skip
      intro b105 eb105
      obtain ⟨x106, ex106, kb105, lb105⟩ := sh_f w_I91.1 kv0 (j := 12) (k := 14) (m := 6) rfl
      cases eb105.symm.trans ex106
      have o107 : vp_in v1 6 := vi_of rfl (by omega) (by omega)
      refine ⟨o107, ?_⟩
      have t108 : 0 ≤ (I91 b105 v1.toNatClampNeg).toInt ∧ (I91 b105 v1.toNatClampNeg).toInt ≤ 50 := w_I91.arr 12 12 kv0 eb105 kb105 rfl rfl _
      intro x109 ex109
      have rx109 := i_rng x109
      first | (have tx109 : x109.toInt = (I91 b105 v1.toNatClampNeg).toInt := by (rw [ex109]; exact rfl)) | (have tx109 : x109.toInt = (I91 b105 v1.toNatClampNeg).toInt := by rw [ex109])
      have t110 : (-2 : Int32).toInt = -2 := rfl
      have t111 : (50 : Int32).toInt = 50 := rfl
      exact ⟨((50 : Int32).toInt + 1).toNat + 1, l_X12_bears_L36 w_I v0 v1 kv0 x109  hQ   _ (-2 : Int32) (50 : Int32) Z I91 L w_I91 bd_Z q_I91 cp_Z   (by omega)  (by omega)⟩
    · skip
      first | (have t112 : (I91 v0 0).toInt = (0) := (i_eq rfl (show (0 : Int32).toInt = 0 from rfl)).mp c103) | (have t112 : (I91 v0 0).toInt = (0 : Int32).toInt := (i_eq rfl rfl).mp c103) | skip
      have t113 : (-1 : Int32).toInt = -1 := rfl
      exact hQ (-1 : Int32) Z I91 L w_I91 bd_Z q_I91 cp_Z 
def Ws_X12_breaks : List (Nat × Nat) := [(12, 13), (12, 21), (12, 22), (12, 24), (12, 25), (12, 26), (12, 27), (12, 31), (12, 32), (12, 33), (12, 34), (12, 37), (12, 38), (12, 40), (12, 41), (12, 42), (12, 43), (12, 44)]
set_option maxHeartbeats 4000000 in
set_option maxRecDepth 100000 in
theorem l_X12_breaks_L56 {B : Nat × Nat} {T : Nat} {Z0 : jZ} {I0 : jI} {Q : Int32 → jZ → jI → jL → Prop} (w0 : WD Z0 I0) (v0 : Nat) (v1 : Int32) (kv0 : jk Z0 v0 12) (v2 : Int32) (v3 : Int32) (hQ : ∀ (r : Int32) (Z' : jZ) (I' : jI) (L' : jL), WD Z' I' → BUD B Z' T → FR Ws_X12_breaks Z0 I0 Z' I' → CP Z0 Z' → Q r Z' I' L') : ∀ (n : Nat) (v4 : Int32) (v5 : Int32) (v6 : Int32) (Z : jZ) (I : jI) (L : jL), WD Z I → BUD B Z T → FR Ws_X12_breaks Z0 I0 Z I → CP Z0 Z →   (0 ≤ v6.toInt ∧ v6.toInt ≤ 8 ∧ 0 ≤ v1.toInt ∧ v1.toInt ≤ 5 ∧ 1 ≤ (I v0 0).toInt) → 8 - v6.toInt < (n : Int) → f_X12_breaks_L56 B  Q n v0 v1 v2 v3 v4 v5 v6 Z I L := by
  intro n
  induction n with
  | zero =>
    intro v4 v5 v6 Z I L w_I bd_Z q_I cp_Z   li  me
    exfalso
    omega
  | succ n ih =>
    intro v4 v5 v6 Z I L w_I bd_Z q_I cp_Z   li  me
    unfold f_X12_breaks_L56
    have rv4 := i_rng v4
    have rv5 := i_rng v5
    have rv6 := i_rng v6
    have rv2 := i_rng v2
    have rv3 := i_rng v3
    have rv1 := i_rng v1
    have kv0_0 := kv0
    have kv0 := (q_I.1 _ _ kv0).1
    have t1 : 0 ≤ (I v0 0).toInt ∧ (I v0 0).toInt ≤ 24 := w_I.fld 12 0 kv0 (by decide)
    have xq_I := q_I.1
    refine ⟨fun c2 => ?_, fun c2 => ?_⟩
    · skip
      first | (have t3 : (8) ≤ v6.toInt := (i_le (show (8 : Int32).toInt = 8 from rfl) rfl).mp c2) | (have t3 : (8 : Int32).toInt ≤ v6.toInt := (i_le rfl rfl).mp c2) | skip
      intro b4 eb4
      obtain ⟨x5, ex5, kb4, lb4⟩ := sh_f w_I.1 kv0 (j := 13) (k := 14) (m := 6) rfl
      cases eb4.symm.trans ex5
      have o6 : vp_in v1 6 := vi_of rfl (by omega) (by omega)
      refine ⟨o6, ?_⟩
      intro I7 eI7
      have w_I7 : WD Z I7 := by rw [eI7]; exact WD_putA w_I 12 13 kv0 eb4 kb4 rfl rfl (by decide) trivial
      have f_I7 : FR [(12, 13)] Z I Z I7 := by rw [eI7]; exact FR_upA w_I.2.1 kv0 eb4 kb4 rfl rfl List.mem_cons_self
      have q_I7 : FR Ws_X12_breaks Z0 I0 Z I7 := q_I.trans w0.1 w0.2.1 (f_I7.mono (by decide))
      have u8 : (I7 v0 0).toInt = (I v0 0).toInt := by rw [f_I7.2.2.1 v0 12 0 kv0 (by decide) (by decide)]
      refine ⟨fun c9 => ?_, fun c9 => ?_⟩
      · skip
        first | (have t10 : (0) ≤ v4.toInt := (i_le (show (0 : Int32).toInt = 0 from rfl) rfl).mp c9) | (have t10 : (0 : Int32).toInt ≤ v4.toInt := (i_le rfl rfl).mp c9) | skip
        intro I11 eI11
        have t12 : (0 : Int32).toInt = 0 := rfl
        have w_I11 : WD Z I11 := by rw [eI11]; exact WD_putF w_I7 12 21 kv0 (by decide) (by decide) (by constructor <;> omega)
        have f_I11 : FR [(12, 21)] Z I7 Z I11 := by rw [eI11]; exact FR_putF kv0 (by decide) List.mem_cons_self
        have q_I11 : FR Ws_X12_breaks Z0 I0 Z I11 := q_I7.trans w0.1 w0.2.1 (f_I11.mono (by decide))
        have u13 : (I11 v0 0).toInt = (I7 v0 0).toInt := by rw [f_I11.2.2.1 v0 12 0 kv0 (by decide) (by decide)]
        first | (have u14 : (I11 v0 21).toInt = (0) := by (rw [eI11, show jpI I7 v0 21 (0 : Int32) v0 21 = (0 : Int32) from jpI_at] <;> exact (show (0 : Int32).toInt = 0 from rfl))) | skip
        refine s_X12_tell w_I11 v0 (v5.toInt64) kv0  (by omega) (fun  I16 L17 w_I16 f_I16 p15 => ?_)
        have q_I16 : FR Ws_X12_breaks Z0 I0 Z I16 := q_I11.trans w0.1 w0.2.1 (f_I16.mono (by decide))
        have u18 : (I16 v0 0).toInt = (I11 v0 0).toInt := by rw [f_I16.2.2.1 v0 12 0 kv0 (by decide) (by decide)]
        refine s_X12_tell w_I16 v0 (v2.toInt64) kv0  (by omega) (fun  I20 L21 w_I20 f_I20 p19 => ?_)
        have q_I20 : FR Ws_X12_breaks Z0 I0 Z I20 := q_I16.trans w0.1 w0.2.1 (f_I20.mono (by decide))
        have u22 : (I20 v0 0).toInt = (I16 v0 0).toInt := by rw [f_I20.2.2.1 v0 12 0 kv0 (by decide) (by decide)]
        exact hQ v4 Z I20 L21 w_I20 bd_Z q_I20 cp_Z 
      · skip
        first | (have t23 : ¬ ((0) ≤ v4.toInt) := (not_congr (i_le (show (0 : Int32).toInt = 0 from rfl) rfl)).mp c9) | (have t23 : ¬ ((0 : Int32).toInt ≤ v4.toInt) := (not_congr (i_le rfl rfl)).mp c9) | skip
        have t24 : (-2 : Int32).toInt = -2 := rfl
        exact hQ (-2 : Int32) Z I7 L w_I7 bd_Z q_I7 cp_Z 
    · skip
      first | (have t25 : ¬ ((8) ≤ v6.toInt) := (not_congr (i_le (show (8 : Int32).toInt = 8 from rfl) rfl)).mp c2) | (have t25 : ¬ ((8 : Int32).toInt ≤ v6.toInt) := (not_congr (i_le rfl rfl)).mp c2) | skip
      refine s_X12_has w_I v3 v6    (fun r26  => ?_)
      have rr26 := i_rng r26
      refine ⟨fun c27 => ?_, fun c27 => ?_⟩
      · skip
        first | (have t28 : ¬ (r26.toInt = (0)) := (not_congr (i_eq rfl (show (0 : Int32).toInt = 0 from rfl))).mp c27) | (have t28 : ¬ (r26.toInt = (0 : Int32).toInt) := (not_congr (i_eq rfl rfl)).mp c27) | skip
        intro b29 eb29
        obtain ⟨x30, ex30, kb29, lb29⟩ := sh_f w_I.1 kv0 (j := 13) (k := 14) (m := 6) rfl
        cases eb29.symm.trans ex30
        have o31 : vp_in v1 6 := vi_of rfl (by omega) (by omega)
        refine ⟨o31, ?_⟩
        intro I32 eI32
        have w_I32 : WD Z I32 := by rw [eI32]; exact WD_putA w_I 12 13 kv0 eb29 kb29 rfl rfl (by decide) trivial
        have f_I32 : FR [(12, 13)] Z I Z I32 := by rw [eI32]; exact FR_upA w_I.2.1 kv0 eb29 kb29 rfl rfl List.mem_cons_self
        have q_I32 : FR Ws_X12_breaks Z0 I0 Z I32 := q_I.trans w0.1 w0.2.1 (f_I32.mono (by decide))
        have u33 : (I32 v0 0).toInt = (I v0 0).toInt := by rw [f_I32.2.2.1 v0 12 0 kv0 (by decide) (by decide)]
        obtain ⟨b34, eb34, kb34, lb34⟩ := sh_f w_I32.1 kv0 (j := 37) (k := 14) (m := 75) rfl
        obtain ⟨b35, eb35, kb35, lb35⟩ := sh_f w_I32.1 kv0 (j := 38) (k := 14) (m := 75) rfl
        obtain ⟨b36, eb36, kb36, lb36⟩ := sh_f w_I32.1 kv0 (j := 40) (k := 14) (m := 25000) rfl
        obtain ⟨b37, eb37, kb37, lb37⟩ := sh_f w_I32.1 kv0 (j := 9) (k := 14) (m := 6) rfl
        obtain ⟨b38, eb38, kb38, lb38⟩ := sh_f w_I32.1 kv0 (j := 44) (k := 14) (m := 24) rfl
        refine s_X12_findClimb w_I32 bd_Z v0 v1 kv0 b34 eb34 b35 eb35 b36 eb36 b37 eb37 b38 eb38 (by omega) (by omega) (fun r39 Z43 I41 L42 w_I41 bd_Z43 f_I41 c_Z43 p40 => ?_)
        have q_I41 : FR Ws_X12_breaks Z0 I0 Z43 I41 := q_I32.trans w0.1 w0.2.1 (f_I41.mono (by decide))
        have cp_Z43 : CP Z0 Z43 := cp_Z.trans q_I32.1 c_Z43
        have x_Z43 := f_I41.1
        have k44 := (f_I41.1 _ _ kv0).1
        have k45 := (f_I41.1 _ _ kb29).1
        have l46 := (f_I41.1 _ _ kb29).2.trans lb29
        have k47 := (f_I41.1 _ _ kv0).1
        have e48 := (f_I41.2.1 v0 12 13 kv0 (by decide) (by decide)).trans eb29
        have k49 := (f_I41.1 _ _ kb34).1
        have l50 := (f_I41.1 _ _ kb34).2.trans lb34
        have k51 := (f_I41.1 _ _ kv0).1
        have e52 := (f_I41.2.1 v0 12 37 kv0 (by decide) (by decide)).trans eb34
        have k53 := (f_I41.1 _ _ kb35).1
        have l54 := (f_I41.1 _ _ kb35).2.trans lb35
        have k55 := (f_I41.1 _ _ kv0).1
        have e56 := (f_I41.2.1 v0 12 38 kv0 (by decide) (by decide)).trans eb35
        have k57 := (f_I41.1 _ _ kb36).1
        have l58 := (f_I41.1 _ _ kb36).2.trans lb36
        have k59 := (f_I41.1 _ _ kv0).1
        have e60 := (f_I41.2.1 v0 12 40 kv0 (by decide) (by decide)).trans eb36
        have k61 := (f_I41.1 _ _ kb37).1
        have l62 := (f_I41.1 _ _ kb37).2.trans lb37
        have k63 := (f_I41.1 _ _ kv0).1
        have e64 := (f_I41.2.1 v0 12 9 kv0 (by decide) (by decide)).trans eb37
        have k65 := (f_I41.1 _ _ kb38).1
        have l66 := (f_I41.1 _ _ kb38).2.trans lb38
        have k67 := (f_I41.1 _ _ kv0).1
        have e68 := (f_I41.2.1 v0 12 44 kv0 (by decide) (by decide)).trans eb38
        have u69 : (I41 v0 0).toInt = (I32 v0 0).toInt := by rw [f_I41.2.2.1 v0 12 0 kv0 (by decide) (by decide)]
        have rr39 := i_rng r39
        refine ⟨fun c70 => ?_, fun c70 => ?_⟩
        · skip
          first | (have t71 : r39.toInt = (0) := (i_eq rfl (show (0 : Int32).toInt = 0 from rfl)).mp c70) | (have t71 : r39.toInt = (0 : Int32).toInt := (i_eq rfl rfl).mp c70) | skip
          unfold f_X12_breaks_b124
          intro x72 ex72
          have rx72 := i_rng x72
          first | (have tx72 : x72.toInt = v6.toInt + (1) := by (rw [ex72]; exact (i_add rfl (show (1 : Int32).toInt = 1 from rfl) (by omega) (by omega)))) | skip
          exact ih v4 v5 x72 Z43 I41 L42 w_I41 bd_Z43 q_I41 cp_Z43   (by omega)  (by omega)
        · skip
          first | (have t73 : ¬ (r39.toInt = (0)) := (not_congr (i_eq rfl (show (0 : Int32).toInt = 0 from rfl))).mp c70) | (have t73 : ¬ (r39.toInt = (0 : Int32).toInt) := (not_congr (i_eq rfl rfl)).mp c70) | skip
          refine ⟨fun c74 => ?_, fun c74 => ?_⟩
          · skip
            first | (have t75 : v4.toInt < (0) := (i_lt rfl (show (0 : Int32).toInt = 0 from rfl)).mp c74) | (have t75 : v4.toInt < (0 : Int32).toInt := (i_lt rfl rfl).mp c74) | skip
            unfold f_X12_breaks_b114
            intro x76 ex76
            have rx76 := i_rng x76
            first | (have tx76 : x76.toInt = (I41 v0 41).toInt := by (rw [ex76]; exact rfl)) | (have tx76 : x76.toInt = (I41 v0 41).toInt := by rw [ex76])
            unfold f_X12_breaks_b124
            intro x77 ex77
            have rx77 := i_rng x77
            first | (have tx77 : x77.toInt = v6.toInt + (1) := by (rw [ex77]; exact (i_add rfl (show (1 : Int32).toInt = 1 from rfl) (by omega) (by omega)))) | skip
            exact ih v6 x76 x77 Z43 I41 L42 w_I41 bd_Z43 q_I41 cp_Z43   (by omega)  (by omega)
          · skip
            first | (have t78 : ¬ (v4.toInt < (0)) := (not_congr (i_lt rfl (show (0 : Int32).toInt = 0 from rfl))).mp c74) | (have t78 : ¬ (v4.toInt < (0 : Int32).toInt) := (not_congr (i_lt rfl rfl)).mp c74) | skip
            refine ⟨fun c79 => ?_, fun c79 => ?_⟩
            · skip
              first | (have t80 : (I41 v0 41).toInt < v5.toInt := (i_lt rfl rfl).mp c79) | (have t80 : (I41 v0 41).toInt < v5.toInt := (i_lt rfl rfl).mp c79) | skip
              unfold f_X12_breaks_b114
              intro x81 ex81
              have rx81 := i_rng x81
              first | (have tx81 : x81.toInt = (I41 v0 41).toInt := by (rw [ex81]; exact rfl)) | (have tx81 : x81.toInt = (I41 v0 41).toInt := by rw [ex81])
              unfold f_X12_breaks_b124
              intro x82 ex82
              have rx82 := i_rng x82
              first | (have tx82 : x82.toInt = v6.toInt + (1) := by (rw [ex82]; exact (i_add rfl (show (1 : Int32).toInt = 1 from rfl) (by omega) (by omega)))) | skip
              exact ih v6 x81 x82 Z43 I41 L42 w_I41 bd_Z43 q_I41 cp_Z43   (by omega)  (by omega)
            · skip
              first | (have t83 : ¬ ((I41 v0 41).toInt < v5.toInt) := (not_congr (i_lt rfl rfl)).mp c79) | (have t83 : ¬ ((I41 v0 41).toInt < v5.toInt) := (not_congr (i_lt rfl rfl)).mp c79) | skip
              unfold f_X12_breaks_b124
              intro x84 ex84
              have rx84 := i_rng x84
              first | (have tx84 : x84.toInt = v6.toInt + (1) := by (rw [ex84]; exact (i_add rfl (show (1 : Int32).toInt = 1 from rfl) (by omega) (by omega)))) | skip
              exact ih v4 v5 x84 Z43 I41 L42 w_I41 bd_Z43 q_I41 cp_Z43   (by omega)  (by omega)
      · skip
        first | (have t85 : r26.toInt = (0) := (i_eq rfl (show (0 : Int32).toInt = 0 from rfl)).mp c27) | (have t85 : r26.toInt = (0 : Int32).toInt := (i_eq rfl rfl).mp c27) | skip
        unfold f_X12_breaks_b124
        intro x86 ex86
        have rx86 := i_rng x86
        first | (have tx86 : x86.toInt = v6.toInt + (1) := by (rw [ex86]; exact (i_add rfl (show (1 : Int32).toInt = 1 from rfl) (by omega) (by omega)))) | skip
        exact ih v4 v5 x86 Z I L w_I bd_Z q_I cp_Z   (by omega)  (by omega)
set_option maxHeartbeats 4000000 in
set_option maxRecDepth 100000 in
theorem s_X12_breaks {B : Nat × Nat} {T : Nat} {Z : jZ} {I : jI} {L : jL} (w_I : WD Z I) (bd_Z : BUD B Z T) (v0 : Nat) (v1 : Int32) (kv0 : jk Z v0 12) {Q : Int32 → jZ → jI → jL → Prop} (hQ : ∀ (r : Int32) (Z' : jZ) (I' : jI) (L' : jL), WD Z' I' → BUD B Z' T → FR Ws_X12_breaks Z I Z' I' → CP Z Z' → Q r Z' I' L') : f_X12_breaks B v0 v1 Z I L Q := by
  unfold f_X12_breaks
  have q_I : FR Ws_X12_breaks Z I Z I := FR.rf
  have cp_Z : CP Z Z := CP.rf
  have rv1 := i_rng v1
  have t87 : 0 ≤ (I v0 0).toInt ∧ (I v0 0).toInt ≤ 24 := w_I.fld 12 0 kv0 (by decide)
  intro I88 eI88
  have t89 : (0 : Int32).toInt = 0 := rfl
  have w_I88 : WD Z I88 := by rw [eI88]; exact WD_putF w_I 12 22 kv0 (by decide) (by decide) trivial
  have f_I88 : FR [(12, 22)] Z I Z I88 := by rw [eI88]; exact FR_putF kv0 (by decide) List.mem_cons_self
  have q_I88 : FR Ws_X12_breaks Z I Z I88 := q_I.trans w_I.1 w_I.2.1 (f_I88.mono (by decide))
  have u90 : (I88 v0 0).toInt = (I v0 0).toInt := by rw [f_I88.2.2.1 v0 12 0 kv0 (by decide) (by decide)]
  first | (have u91 : (I88 v0 22).toInt = (0) := by (rw [eI88, show jpI I v0 22 (0 : Int32) v0 22 = (0 : Int32) from jpI_at] <;> exact (show (0 : Int32).toInt = 0 from rfl))) | skip
  refine s_X12_isOne w_I88 v0 v1 kv0   (fun r92 p93 => ?_)
  have rr92 := i_rng r92
  refine ⟨fun c94 => ?_, fun c94 => ?_⟩
  · skip
    first | (have t95 : r92.toInt = (0) := (i_eq rfl (show (0 : Int32).toInt = 0 from rfl)).mp c94) | (have t95 : r92.toInt = (0 : Int32).toInt := (i_eq rfl rfl).mp c94) | skip
    have t96 : (-1 : Int32).toInt = -1 := rfl
    exact hQ (-1 : Int32) Z I88 L w_I88 bd_Z q_I88 cp_Z 
  · skip
    first | (have t97 : ¬ (r92.toInt = (0)) := (not_congr (i_eq rfl (show (0 : Int32).toInt = 0 from rfl))).mp c94) | (have t97 : ¬ (r92.toInt = (0 : Int32).toInt) := (not_congr (i_eq rfl rfl)).mp c94) | skip
    have t99 : 0 ≤ (I88 v0 0).toInt ∧ (I88 v0 0).toInt ≤ 24 := w_I88.fld 12 0 kv0 (by decide)
    refine ⟨fun c100 => ?_, fun c100 => ?_⟩
    · skip
      first | (have t101 : ¬ ((I88 v0 0).toInt = (0)) := (not_congr (i_eq rfl (show (0 : Int32).toInt = 0 from rfl))).mp c100) | (have t101 : ¬ ((I88 v0 0).toInt = (0 : Int32).toInt) := (not_congr (i_eq rfl rfl)).mp c100) | skip
      obtain ⟨b102, eb102, kb102, lb102⟩ := sh_f w_I88.1 kv0 (j := 37) (k := 14) (m := 75) rfl
      obtain ⟨b103, eb103, kb103, lb103⟩ := sh_f w_I88.1 kv0 (j := 38) (k := 14) (m := 75) rfl
      obtain ⟨b104, eb104, kb104, lb104⟩ := sh_f w_I88.1 kv0 (j := 40) (k := 14) (m := 25000) rfl
      obtain ⟨b105, eb105, kb105, lb105⟩ := sh_f w_I88.1 kv0 (j := 9) (k := 14) (m := 6) rfl
      obtain ⟨b106, eb106, kb106, lb106⟩ := sh_f w_I88.1 kv0 (j := 44) (k := 14) (m := 24) rfl
      refine s_X12_findClimb w_I88 bd_Z v0 v1 kv0 b102 eb102 b103 eb103 b104 eb104 b105 eb105 b106 eb106 (by omega) (by omega) (fun r107 Z111 I109 L110 w_I109 bd_Z111 f_I109 c_Z111 p108 => ?_)
      have q_I109 : FR Ws_X12_breaks Z I Z111 I109 := q_I88.trans w_I.1 w_I.2.1 (f_I109.mono (by decide))
      have cp_Z111 : CP Z Z111 := cp_Z.trans q_I88.1 c_Z111
      have x_Z111 := f_I109.1
      have k112 := (f_I109.1 _ _ kv0).1
      have k113 := (f_I109.1 _ _ kb102).1
      have l114 := (f_I109.1 _ _ kb102).2.trans lb102
      have k115 := (f_I109.1 _ _ kv0).1
      have e116 := (f_I109.2.1 v0 12 37 kv0 (by decide) (by decide)).trans eb102
      have k117 := (f_I109.1 _ _ kb103).1
      have l118 := (f_I109.1 _ _ kb103).2.trans lb103
      have k119 := (f_I109.1 _ _ kv0).1
      have e120 := (f_I109.2.1 v0 12 38 kv0 (by decide) (by decide)).trans eb103
      have k121 := (f_I109.1 _ _ kb104).1
      have l122 := (f_I109.1 _ _ kb104).2.trans lb104
      have k123 := (f_I109.1 _ _ kv0).1
      have e124 := (f_I109.2.1 v0 12 40 kv0 (by decide) (by decide)).trans eb104
      have k125 := (f_I109.1 _ _ kb105).1
      have l126 := (f_I109.1 _ _ kb105).2.trans lb105
      have k127 := (f_I109.1 _ _ kv0).1
      have e128 := (f_I109.2.1 v0 12 9 kv0 (by decide) (by decide)).trans eb105
      have k129 := (f_I109.1 _ _ kb106).1
      have l130 := (f_I109.1 _ _ kb106).2.trans lb106
      have k131 := (f_I109.1 _ _ kv0).1
      have e132 := (f_I109.2.1 v0 12 44 kv0 (by decide) (by decide)).trans eb106
      have u133 : (I109 v0 0).toInt = (I88 v0 0).toInt := by rw [f_I109.2.2.1 v0 12 0 kv0 (by decide) (by decide)]
      have u134 : (I109 v0 22).toInt = (I88 v0 22).toInt := by rw [f_I109.2.2.1 v0 12 22 kv0 (by decide) (by decide)]
      have rr107 := i_rng r107
      refine ⟨fun c135 => ?_, fun c135 => ?_⟩
      · skip
        first | (have t136 : r107.toInt = (0) := (i_eq rfl (show (0 : Int32).toInt = 0 from rfl)).mp c135) | (have t136 : r107.toInt = (0 : Int32).toInt := (i_eq rfl rfl).mp c135) | skip
        unfold f_X12_breaks_b38
        intro b137 eb137
        obtain ⟨x138, ex138, kb137, lb137⟩ := sh_f w_I109.1 k112 (j := 13) (k := 14) (m := 6) rfl
        cases eb137.symm.trans ex138
        have o139 : vp_in v1 6 := vi_of rfl (by omega) (by omega)
        refine ⟨o139, ?_⟩
        intro x140 ex140
        have rx140 := i_rng x140
        first | (have tx140 : x140.toInt = (I109 b137 v1.toNatClampNeg).toInt := by (rw [ex140]; exact rfl)) | (have tx140 : x140.toInt = (I109 b137 v1.toNatClampNeg).toInt := by rw [ex140])
        have t141 : (-1 : Int32).toInt = -1 := rfl
        have t142 : (-2 : Int32).toInt = -2 := rfl
        have t143 : (0 : Int32).toInt = 0 := rfl
        have t144 : (0 : Int32).toInt = 0 := rfl
        exact ⟨(8 - (0 : Int32).toInt).toNat + 1, l_X12_breaks_L56 w_I v0 v1 kv0 (-1 : Int32) x140  hQ   _ (-2 : Int32) (0 : Int32) (0 : Int32) Z111 I109 L110 w_I109 bd_Z111 q_I109 cp_Z111   (by omega)  (by omega)⟩
      · skip
        first | (have t145 : ¬ (r107.toInt = (0)) := (not_congr (i_eq rfl (show (0 : Int32).toInt = 0 from rfl))).mp c135) | (have t145 : ¬ (r107.toInt = (0 : Int32).toInt) := (not_congr (i_eq rfl rfl)).mp c135) | skip
        unfold f_X12_breaks_b38
        intro b146 eb146
        obtain ⟨x147, ex147, kb146, lb146⟩ := sh_f w_I109.1 k112 (j := 13) (k := 14) (m := 6) rfl
        cases eb146.symm.trans ex147
        have o148 : vp_in v1 6 := vi_of rfl (by omega) (by omega)
        refine ⟨o148, ?_⟩
        intro x149 ex149
        have rx149 := i_rng x149
        first | (have tx149 : x149.toInt = (I109 b146 v1.toNatClampNeg).toInt := by (rw [ex149]; exact rfl)) | (have tx149 : x149.toInt = (I109 b146 v1.toNatClampNeg).toInt := by rw [ex149])
        have t150 : (-2 : Int32).toInt = -2 := rfl
        have t151 : (0 : Int32).toInt = 0 := rfl
        have t152 : (0 : Int32).toInt = 0 := rfl
        exact ⟨(8 - (0 : Int32).toInt).toNat + 1, l_X12_breaks_L56 w_I v0 v1 kv0 (I109 v0 41) x149  hQ   _ (-2 : Int32) (0 : Int32) (0 : Int32) Z111 I109 L110 w_I109 bd_Z111 q_I109 cp_Z111   (by omega)  (by omega)⟩
    · skip
      first | (have t153 : (I88 v0 0).toInt = (0) := (i_eq rfl (show (0 : Int32).toInt = 0 from rfl)).mp c100) | (have t153 : (I88 v0 0).toInt = (0 : Int32).toInt := (i_eq rfl rfl).mp c100) | skip
      have t154 : (-1 : Int32).toInt = -1 := rfl
      exact hQ (-1 : Int32) Z I88 L w_I88 bd_Z q_I88 cp_Z 
def Ws_X12_findAll : List (Nat × Nat) := [(12, 24), (12, 25), (12, 26), (12, 27), (12, 31), (12, 32), (12, 33), (12, 34), (12, 37), (12, 38), (12, 40), (12, 41), (12, 42), (12, 43), (12, 44), (12, 48), (12, 49), (12, 50)]
set_option maxHeartbeats 4000000 in
set_option maxRecDepth 100000 in
theorem l_X12_findAll_L17 {B : Nat × Nat} {T : Nat} {Z0 : jZ} {I0 : jI} {Q : jZ → jI → jL → Prop} (w0 : WD Z0 I0) (v0 : Nat) (kv0 : jk Z0 v0 12) (hQ : ∀  (Z' : jZ) (I' : jI) (L' : jL), WD Z' I' → BUD B Z' T → FR Ws_X12_findAll Z0 I0 Z' I' → CP Z0 Z' → Q Z' I' L') : ∀ (n : Nat) (v1 : Int32) (Z : jZ) (I : jI) (L : jL), WD Z I → BUD B Z T → FR Ws_X12_findAll Z0 I0 Z I → CP Z0 Z →   (0 ≤ v1.toInt ∧ v1.toInt ≤ 6) → 6 - v1.toInt < (n : Int) → f_X12_findAll_L17 B  Q n v0 v1 Z I L := by
  intro n
  induction n with
  | zero =>
    intro v1 Z I L w_I bd_Z q_I cp_Z   li  me
    exfalso
    omega
  | succ n ih =>
    intro v1 Z I L w_I bd_Z q_I cp_Z   li  me
    unfold f_X12_findAll_L17
    have rv1 := i_rng v1
    have kv0_0 := kv0
    have kv0 := (q_I.1 _ _ kv0).1
    have t1 : 0 ≤ (I v0 0).toInt ∧ (I v0 0).toInt ≤ 24 := w_I.fld 12 0 kv0 (by decide)
    have xq_I := q_I.1
    have t3 : 0 ≤ (I v0 8).toInt ∧ (I v0 8).toInt ≤ 6 := w_I.fld 12 8 kv0 (by decide)
    refine ⟨fun c4 => ?_, fun c4 => ?_⟩
    · skip
      first | (have t5 : (I v0 8).toInt ≤ v1.toInt := (i_le rfl rfl).mp c4) | (have t5 : (I v0 8).toInt ≤ v1.toInt := (i_le rfl rfl).mp c4) | skip
      exact hQ  Z I L w_I bd_Z q_I cp_Z 
    · skip
      first | (have t6 : ¬ ((I v0 8).toInt ≤ v1.toInt) := (not_congr (i_le rfl rfl)).mp c4) | (have t6 : ¬ ((I v0 8).toInt ≤ v1.toInt) := (not_congr (i_le rfl rfl)).mp c4) | skip
      have t8 : 0 ≤ (I v0 0).toInt ∧ (I v0 0).toInt ≤ 24 := w_I.fld 12 0 kv0 (by decide)
      refine ⟨fun c9 => ?_, fun c9 => ?_⟩
      · skip
        first | (have t10 : (I v0 0).toInt ≤ (0) := (i_le rfl (show (0 : Int32).toInt = 0 from rfl)).mp c9) | (have t10 : (I v0 0).toInt ≤ (0 : Int32).toInt := (i_le rfl rfl).mp c9) | skip
        exact hQ  Z I L w_I bd_Z q_I cp_Z 
      · skip
        first | (have t11 : ¬ ((I v0 0).toInt ≤ (0)) := (not_congr (i_le rfl (show (0 : Int32).toInt = 0 from rfl))).mp c9) | (have t11 : ¬ ((I v0 0).toInt ≤ (0 : Int32).toInt) := (not_congr (i_le rfl rfl)).mp c9) | skip
        obtain ⟨b12, eb12, kb12, lb12⟩ := sh_f w_I.1 kv0 (j := 37) (k := 14) (m := 75) rfl
        obtain ⟨b13, eb13, kb13, lb13⟩ := sh_f w_I.1 kv0 (j := 38) (k := 14) (m := 75) rfl
        obtain ⟨b14, eb14, kb14, lb14⟩ := sh_f w_I.1 kv0 (j := 40) (k := 14) (m := 25000) rfl
        obtain ⟨b15, eb15, kb15, lb15⟩ := sh_f w_I.1 kv0 (j := 9) (k := 14) (m := 6) rfl
        obtain ⟨b16, eb16, kb16, lb16⟩ := sh_f w_I.1 kv0 (j := 44) (k := 14) (m := 24) rfl
        refine s_X12_findClimb w_I bd_Z v0 v1 kv0 b12 eb12 b13 eb13 b14 eb14 b15 eb15 b16 eb16 (by omega) (by omega) (fun r17 Z21 I19 L20 w_I19 bd_Z21 f_I19 c_Z21 p18 => ?_)
        have q_I19 : FR Ws_X12_findAll Z0 I0 Z21 I19 := q_I.trans w0.1 w0.2.1 (f_I19.mono (by decide))
        have cp_Z21 : CP Z0 Z21 := cp_Z.trans q_I.1 c_Z21
        have x_Z21 := f_I19.1
        have k22 := (f_I19.1 _ _ kv0).1
        have k23 := (f_I19.1 _ _ kb12).1
        have l24 := (f_I19.1 _ _ kb12).2.trans lb12
        have k25 := (f_I19.1 _ _ kv0).1
        have e26 := (f_I19.2.1 v0 12 37 kv0 (by decide) (by decide)).trans eb12
        have k27 := (f_I19.1 _ _ kb13).1
        have l28 := (f_I19.1 _ _ kb13).2.trans lb13
        have k29 := (f_I19.1 _ _ kv0).1
        have e30 := (f_I19.2.1 v0 12 38 kv0 (by decide) (by decide)).trans eb13
        have k31 := (f_I19.1 _ _ kb14).1
        have l32 := (f_I19.1 _ _ kb14).2.trans lb14
        have k33 := (f_I19.1 _ _ kv0).1
        have e34 := (f_I19.2.1 v0 12 40 kv0 (by decide) (by decide)).trans eb14
        have k35 := (f_I19.1 _ _ kb15).1
        have l36 := (f_I19.1 _ _ kb15).2.trans lb15
        have k37 := (f_I19.1 _ _ kv0).1
        have e38 := (f_I19.2.1 v0 12 9 kv0 (by decide) (by decide)).trans eb15
        have k39 := (f_I19.1 _ _ kb16).1
        have l40 := (f_I19.1 _ _ kb16).2.trans lb16
        have k41 := (f_I19.1 _ _ kv0).1
        have e42 := (f_I19.2.1 v0 12 44 kv0 (by decide) (by decide)).trans eb16
        have u43 : (I19 v0 0).toInt = (I v0 0).toInt := by rw [f_I19.2.2.1 v0 12 0 kv0 (by decide) (by decide)]
        have u44 : (I19 v0 8).toInt = (I v0 8).toInt := by rw [f_I19.2.2.1 v0 12 8 kv0 (by decide) (by decide)]
        have rr17 := i_rng r17
        refine ⟨fun c45 => ?_, fun c45 => ?_⟩
        · skip
          first | (have t46 : ¬ (r17.toInt = (0)) := (not_congr (i_eq rfl (show (0 : Int32).toInt = 0 from rfl))).mp c45) | (have t46 : ¬ (r17.toInt = (0 : Int32).toInt) := (not_congr (i_eq rfl rfl)).mp c45) | skip
          intro I47 eI47
          try (have t48 : ((I19 v0 48) + (1 : Int32)).toInt = ((I19 v0 48).toInt + (1)) := (i_add rfl (show (1 : Int32).toInt = 1 from rfl) (by omega) (by omega)))
          have w_I47 : WD Z21 I47 := by rw [eI47]; exact WD_putF w_I19 12 48 k22 (by decide) (by decide) trivial
          have f_I47 : FR [(12, 48)] Z21 I19 Z21 I47 := by rw [eI47]; exact FR_putF k22 (by decide) List.mem_cons_self
          have q_I47 : FR Ws_X12_findAll Z0 I0 Z21 I47 := q_I19.trans w0.1 w0.2.1 (f_I47.mono (by decide))
          have u49 : (I47 v0 0).toInt = (I19 v0 0).toInt := by rw [f_I47.2.2.1 v0 12 0 k22 (by decide) (by decide)]
          have u50 : (I47 v0 8).toInt = (I19 v0 8).toInt := by rw [f_I47.2.2.1 v0 12 8 k22 (by decide) (by decide)]
          first | (have u51 : (I47 v0 48).toInt = ((I19 v0 48).toInt + (1)) := by (rw [eI47, show jpI I19 v0 48 ((I19 v0 48) + (1 : Int32)) v0 48 = ((I19 v0 48) + (1 : Int32)) from jpI_at] <;> exact (i_add rfl (show (1 : Int32).toInt = 1 from rfl) (by omega) (by omega)))) | skip
          intro I52 eI52
          try (have t53 : ((I47 v0 49) + (I47 v0 41)).toInt = ((I47 v0 49).toInt + (I47 v0 41).toInt) := (i_add rfl rfl (by omega) (by omega)))
          have w_I52 : WD Z21 I52 := by rw [eI52]; exact WD_putF w_I47 12 49 k22 (by decide) (by decide) trivial
          have f_I52 : FR [(12, 49)] Z21 I47 Z21 I52 := by rw [eI52]; exact FR_putF k22 (by decide) List.mem_cons_self
          have q_I52 : FR Ws_X12_findAll Z0 I0 Z21 I52 := q_I47.trans w0.1 w0.2.1 (f_I52.mono (by decide))
          have u54 : (I52 v0 0).toInt = (I47 v0 0).toInt := by rw [f_I52.2.2.1 v0 12 0 k22 (by decide) (by decide)]
          have u55 : (I52 v0 8).toInt = (I47 v0 8).toInt := by rw [f_I52.2.2.1 v0 12 8 k22 (by decide) (by decide)]
          have u56 : (I52 v0 48).toInt = (I47 v0 48).toInt := by rw [f_I52.2.2.1 v0 12 48 k22 (by decide) (by decide)]
          have u57 : (I52 v0 41).toInt = (I47 v0 41).toInt := by rw [f_I52.2.2.1 v0 12 41 k22 (by decide) (by decide)]
          first | (have u58 : (I52 v0 49).toInt = ((I47 v0 49).toInt + (I47 v0 41).toInt) := by (rw [eI52, show jpI I47 v0 49 ((I47 v0 49) + (I47 v0 41)) v0 49 = ((I47 v0 49) + (I47 v0 41)) from jpI_at] <;> exact (i_add rfl rfl (by omega) (by omega)))) | skip
          intro I59 eI59
          try (have t60 : ((I52 v0 50) + (I52 v0 42)).toInt = ((I52 v0 50).toInt + (I52 v0 42).toInt) := (i_add rfl rfl (by omega) (by omega)))
          have w_I59 : WD Z21 I59 := by rw [eI59]; exact WD_putF w_I52 12 50 k22 (by decide) (by decide) trivial
          have f_I59 : FR [(12, 50)] Z21 I52 Z21 I59 := by rw [eI59]; exact FR_putF k22 (by decide) List.mem_cons_self
          have q_I59 : FR Ws_X12_findAll Z0 I0 Z21 I59 := q_I52.trans w0.1 w0.2.1 (f_I59.mono (by decide))
          have u61 : (I59 v0 0).toInt = (I52 v0 0).toInt := by rw [f_I59.2.2.1 v0 12 0 k22 (by decide) (by decide)]
          have u62 : (I59 v0 8).toInt = (I52 v0 8).toInt := by rw [f_I59.2.2.1 v0 12 8 k22 (by decide) (by decide)]
          have u63 : (I59 v0 48).toInt = (I52 v0 48).toInt := by rw [f_I59.2.2.1 v0 12 48 k22 (by decide) (by decide)]
          have u64 : (I59 v0 41).toInt = (I52 v0 41).toInt := by rw [f_I59.2.2.1 v0 12 41 k22 (by decide) (by decide)]
          have u65 : (I59 v0 49).toInt = (I52 v0 49).toInt := by rw [f_I59.2.2.1 v0 12 49 k22 (by decide) (by decide)]
          have u66 : (I59 v0 42).toInt = (I52 v0 42).toInt := by rw [f_I59.2.2.1 v0 12 42 k22 (by decide) (by decide)]
          first | (have u67 : (I59 v0 50).toInt = ((I52 v0 50).toInt + (I52 v0 42).toInt) := by (rw [eI59, show jpI I52 v0 50 ((I52 v0 50) + (I52 v0 42)) v0 50 = ((I52 v0 50) + (I52 v0 42)) from jpI_at] <;> exact (i_add rfl rfl (by omega) (by omega)))) | skip
          unfold f_X12_findAll_b79
          intro x68 ex68
          have rx68 := i_rng x68
          first | (have tx68 : x68.toInt = v1.toInt + (1) := by (rw [ex68]; exact (i_add rfl (show (1 : Int32).toInt = 1 from rfl) (by omega) (by omega)))) | skip
          exact ih x68 Z21 I59 L20 w_I59 bd_Z21 q_I59 cp_Z21   (by omega)  (by omega)
        · skip
          first | (have t69 : r17.toInt = (0) := (i_eq rfl (show (0 : Int32).toInt = 0 from rfl)).mp c45) | (have t69 : r17.toInt = (0 : Int32).toInt := (i_eq rfl rfl).mp c45) | skip
          unfold f_X12_findAll_b79
          intro x70 ex70
          have rx70 := i_rng x70
          first | (have tx70 : x70.toInt = v1.toInt + (1) := by (rw [ex70]; exact (i_add rfl (show (1 : Int32).toInt = 1 from rfl) (by omega) (by omega)))) | skip
          exact ih x70 Z21 I19 L20 w_I19 bd_Z21 q_I19 cp_Z21   (by omega)  (by omega)
set_option maxHeartbeats 4000000 in
set_option maxRecDepth 100000 in
theorem s_X12_findAll {B : Nat × Nat} {T : Nat} {Z : jZ} {I : jI} {L : jL} (w_I : WD Z I) (bd_Z : BUD B Z T) (v0 : Nat) (kv0 : jk Z v0 12) {Q : jZ → jI → jL → Prop} (hQ : ∀  (Z' : jZ) (I' : jI) (L' : jL), WD Z' I' → BUD B Z' T → FR Ws_X12_findAll Z I Z' I' → CP Z Z' → Q Z' I' L') : f_X12_findAll B v0 Z I L Q := by
  unfold f_X12_findAll
  have q_I : FR Ws_X12_findAll Z I Z I := FR.rf
  have cp_Z : CP Z Z := CP.rf
  have t71 : 0 ≤ (I v0 0).toInt ∧ (I v0 0).toInt ≤ 24 := w_I.fld 12 0 kv0 (by decide)
  intro I72 eI72
  have t73 : (0 : Int32).toInt = 0 := rfl
  have w_I72 : WD Z I72 := by rw [eI72]; exact WD_putF w_I 12 48 kv0 (by decide) (by decide) trivial
  have f_I72 : FR [(12, 48)] Z I Z I72 := by rw [eI72]; exact FR_putF kv0 (by decide) List.mem_cons_self
  have q_I72 : FR Ws_X12_findAll Z I Z I72 := q_I.trans w_I.1 w_I.2.1 (f_I72.mono (by decide))
  have u74 : (I72 v0 0).toInt = (I v0 0).toInt := by rw [f_I72.2.2.1 v0 12 0 kv0 (by decide) (by decide)]
  first | (have u75 : (I72 v0 48).toInt = (0) := by (rw [eI72, show jpI I v0 48 (0 : Int32) v0 48 = (0 : Int32) from jpI_at] <;> exact (show (0 : Int32).toInt = 0 from rfl))) | skip
  intro I76 eI76
  have t77 : (0 : Int32).toInt = 0 := rfl
  have w_I76 : WD Z I76 := by rw [eI76]; exact WD_putF w_I72 12 49 kv0 (by decide) (by decide) trivial
  have f_I76 : FR [(12, 49)] Z I72 Z I76 := by rw [eI76]; exact FR_putF kv0 (by decide) List.mem_cons_self
  have q_I76 : FR Ws_X12_findAll Z I Z I76 := q_I72.trans w_I.1 w_I.2.1 (f_I76.mono (by decide))
  have u78 : (I76 v0 0).toInt = (I72 v0 0).toInt := by rw [f_I76.2.2.1 v0 12 0 kv0 (by decide) (by decide)]
  have u79 : (I76 v0 48).toInt = (I72 v0 48).toInt := by rw [f_I76.2.2.1 v0 12 48 kv0 (by decide) (by decide)]
  first | (have u80 : (I76 v0 49).toInt = (0) := by (rw [eI76, show jpI I72 v0 49 (0 : Int32) v0 49 = (0 : Int32) from jpI_at] <;> exact (show (0 : Int32).toInt = 0 from rfl))) | skip
  intro I81 eI81
  have t82 : (0 : Int32).toInt = 0 := rfl
  have w_I81 : WD Z I81 := by rw [eI81]; exact WD_putF w_I76 12 50 kv0 (by decide) (by decide) trivial
  have f_I81 : FR [(12, 50)] Z I76 Z I81 := by rw [eI81]; exact FR_putF kv0 (by decide) List.mem_cons_self
  have q_I81 : FR Ws_X12_findAll Z I Z I81 := q_I76.trans w_I.1 w_I.2.1 (f_I81.mono (by decide))
  have u83 : (I81 v0 0).toInt = (I76 v0 0).toInt := by rw [f_I81.2.2.1 v0 12 0 kv0 (by decide) (by decide)]
  have u84 : (I81 v0 48).toInt = (I76 v0 48).toInt := by rw [f_I81.2.2.1 v0 12 48 kv0 (by decide) (by decide)]
  have u85 : (I81 v0 49).toInt = (I76 v0 49).toInt := by rw [f_I81.2.2.1 v0 12 49 kv0 (by decide) (by decide)]
  first | (have u86 : (I81 v0 50).toInt = (0) := by (rw [eI81, show jpI I76 v0 50 (0 : Int32) v0 50 = (0 : Int32) from jpI_at] <;> exact (show (0 : Int32).toInt = 0 from rfl))) | skip
  have t87 : (0 : Int32).toInt = 0 := rfl
  exact ⟨(6 - (0 : Int32).toInt).toNat + 1, l_X12_findAll_L17 w_I v0 kv0   hQ   _ (0 : Int32) Z I81 L w_I81 bd_Z q_I81 cp_Z   (by omega)  (by omega)⟩
def Ws_X12_all : List (Nat × Nat) := [(12, 21), (12, 22), (12, 24), (12, 25), (12, 26), (12, 27), (12, 31), (12, 32), (12, 33), (12, 34), (12, 37), (12, 38), (12, 40), (12, 41), (12, 42), (12, 43), (12, 44), (12, 48), (12, 49), (12, 50)]
set_option maxHeartbeats 4000000 in
set_option maxRecDepth 100000 in
theorem s_X12_all {B : Nat × Nat} {T : Nat} {Z : jZ} {I : jI} {L : jL} (w_I : WD Z I) (bd_Z : BUD B Z T) (v0 : Nat) (kv0 : jk Z v0 12) {Q : Int32 → jZ → jI → jL → Prop} (hQ : ∀ (r : Int32) (Z' : jZ) (I' : jI) (L' : jL), WD Z' I' → BUD B Z' T → FR Ws_X12_all Z I Z' I' → CP Z Z' → Q r Z' I' L') : f_X12_all B v0 Z I L Q := by
  unfold f_X12_all
  have q_I : FR Ws_X12_all Z I Z I := FR.rf
  have cp_Z : CP Z Z := CP.rf
  intro I1 eI1
  have t2 : (0 : Int32).toInt = 0 := rfl
  have w_I1 : WD Z I1 := by rw [eI1]; exact WD_putF w_I 12 22 kv0 (by decide) (by decide) trivial
  have f_I1 : FR [(12, 22)] Z I Z I1 := by rw [eI1]; exact FR_putF kv0 (by decide) List.mem_cons_self
  have q_I1 : FR Ws_X12_all Z I Z I1 := q_I.trans w_I.1 w_I.2.1 (f_I1.mono (by decide))
  first | (have u3 : (I1 v0 22).toInt = (0) := by (rw [eI1, show jpI I v0 22 (0 : Int32) v0 22 = (0 : Int32) from jpI_at] <;> exact (show (0 : Int32).toInt = 0 from rfl))) | skip
  refine s_X12_findAll w_I1 bd_Z v0 kv0   (fun  Z6 I4 L5 w_I4 bd_Z6 f_I4 c_Z6  => ?_)
  have q_I4 : FR Ws_X12_all Z I Z6 I4 := q_I1.trans w_I.1 w_I.2.1 (f_I4.mono (by decide))
  have cp_Z6 : CP Z Z6 := cp_Z.trans q_I1.1 c_Z6
  have x_Z6 := f_I4.1
  have k7 := (f_I4.1 _ _ kv0).1
  have u8 : (I4 v0 22).toInt = (I1 v0 22).toInt := by rw [f_I4.2.2.1 v0 12 22 kv0 (by decide) (by decide)]
  intro I9 eI9
  have t10 : (0 : Int32).toInt = 0 := rfl
  have w_I9 : WD Z6 I9 := by rw [eI9]; exact WD_putF w_I4 12 21 k7 (by decide) (by decide) (by constructor <;> omega)
  have f_I9 : FR [(12, 21)] Z6 I4 Z6 I9 := by rw [eI9]; exact FR_putF k7 (by decide) List.mem_cons_self
  have q_I9 : FR Ws_X12_all Z I Z6 I9 := q_I4.trans w_I.1 w_I.2.1 (f_I9.mono (by decide))
  have u11 : (I9 v0 22).toInt = (I4 v0 22).toInt := by rw [f_I9.2.2.1 v0 12 22 k7 (by decide) (by decide)]
  first | (have u12 : (I9 v0 21).toInt = (0) := by (rw [eI9, show jpI I4 v0 21 (0 : Int32) v0 21 = (0 : Int32) from jpI_at] <;> exact (show (0 : Int32).toInt = 0 from rfl))) | skip
  refine s_X12_tell w_I9 v0 ((I9 v0 48).toInt64) k7  (by omega) (fun  I14 L15 w_I14 f_I14 p13 => ?_)
  have q_I14 : FR Ws_X12_all Z I Z6 I14 := q_I9.trans w_I.1 w_I.2.1 (f_I14.mono (by decide))
  have u16 : (I14 v0 22).toInt = (I9 v0 22).toInt := by rw [f_I14.2.2.1 v0 12 22 k7 (by decide) (by decide)]
  have u17 : (I14 v0 48).toInt = (I9 v0 48).toInt := by rw [f_I14.2.2.1 v0 12 48 k7 (by decide) (by decide)]
  refine s_X12_tell w_I14 v0 ((I14 v0 50).toInt64) k7  (by omega) (fun  I19 L20 w_I19 f_I19 p18 => ?_)
  have q_I19 : FR Ws_X12_all Z I Z6 I19 := q_I14.trans w_I.1 w_I.2.1 (f_I19.mono (by decide))
  have u21 : (I19 v0 22).toInt = (I14 v0 22).toInt := by rw [f_I19.2.2.1 v0 12 22 k7 (by decide) (by decide)]
  have u22 : (I19 v0 48).toInt = (I14 v0 48).toInt := by rw [f_I19.2.2.1 v0 12 48 k7 (by decide) (by decide)]
  have u23 : (I19 v0 50).toInt = (I14 v0 50).toInt := by rw [f_I19.2.2.1 v0 12 50 k7 (by decide) (by decide)]
  exact hQ (I19 v0 49) Z6 I19 L20 w_I19 bd_Z6 q_I19 cp_Z6 
def Ws_X12_whole : List (Nat × Nat) := [(12, 2), (12, 21), (12, 22), (12, 24), (12, 25), (12, 26), (12, 27), (12, 31), (12, 32), (12, 33), (12, 34), (12, 37), (12, 38), (12, 40), (12, 41), (12, 42), (12, 43), (12, 44), (12, 48), (12, 49), (12, 50)]
set_option maxHeartbeats 4000000 in
set_option maxRecDepth 100000 in
theorem s_X12_whole {B : Nat × Nat} {T : Nat} {Z : jZ} {I : jI} {L : jL} (w_I : WD Z I) (bd_Z : BUD B Z T) (v0 : Nat) (v1 : Int32) (kv0 : jk Z v0 12) {Q : Int32 → jZ → jI → jL → Prop} (hQ : ∀ (r : Int32) (Z' : jZ) (I' : jI) (L' : jL), WD Z' I' → BUD B Z' T → FR Ws_X12_whole Z I Z' I' → CP Z Z' → Q r Z' I' L') : f_X12_whole B v0 v1 Z I L Q := by
  unfold f_X12_whole
  have q_I : FR Ws_X12_whole Z I Z I := FR.rf
  have cp_Z : CP Z Z := CP.rf
  have rv1 := i_rng v1
  intro I1 eI1
  have t2 : (0 : Int32).toInt = 0 := rfl
  have w_I1 : WD Z I1 := by rw [eI1]; exact WD_putF w_I 12 22 kv0 (by decide) (by decide) trivial
  have f_I1 : FR [(12, 22)] Z I Z I1 := by rw [eI1]; exact FR_putF kv0 (by decide) List.mem_cons_self
  have q_I1 : FR Ws_X12_whole Z I Z I1 := q_I.trans w_I.1 w_I.2.1 (f_I1.mono (by decide))
  first | (have u3 : (I1 v0 22).toInt = (0) := by (rw [eI1, show jpI I v0 22 (0 : Int32) v0 22 = (0 : Int32) from jpI_at] <;> exact (show (0 : Int32).toInt = 0 from rfl))) | skip
  refine s_X12_isStep w_I1 v0 v1 kv0   (fun r4 p5 => ?_)
  have rr4 := i_rng r4
  refine ⟨fun c6 => ?_, fun c6 => ?_⟩
  · skip
    first | (have t7 : ¬ (r4.toInt = (0)) := (not_congr (i_eq rfl (show (0 : Int32).toInt = 0 from rfl))).mp c6) | (have t7 : ¬ (r4.toInt = (0 : Int32).toInt) := (not_congr (i_eq rfl rfl)).mp c6) | skip
    refine s_X12_findAll w_I1 bd_Z v0 kv0   (fun  Z10 I8 L9 w_I8 bd_Z10 f_I8 c_Z10  => ?_)
    have q_I8 : FR Ws_X12_whole Z I Z10 I8 := q_I1.trans w_I.1 w_I.2.1 (f_I8.mono (by decide))
    have cp_Z10 : CP Z Z10 := cp_Z.trans q_I1.1 c_Z10
    have x_Z10 := f_I8.1
    have k11 := (f_I8.1 _ _ kv0).1
    have u12 : (I8 v0 22).toInt = (I1 v0 22).toInt := by rw [f_I8.2.2.1 v0 12 22 kv0 (by decide) (by decide)]
    intro x13 ex13
    have rx13 := i_rng x13
    first | (have tx13 : x13.toInt = (I8 v0 48).toInt := by (rw [ex13]; exact rfl)) | (have tx13 : x13.toInt = (I8 v0 48).toInt := by rw [ex13])
    intro x14 ex14
    have rx14 := i_rng x14
    first | (have tx14 : x14.toInt = (I8 v0 49).toInt := by (rw [ex14]; exact rfl)) | (have tx14 : x14.toInt = (I8 v0 49).toInt := by rw [ex14])
    intro x15 ex15
    have rx15 := i_rng x15
    first | (have tx15 : x15.toInt = (I8 v0 50).toInt := by (rw [ex15]; exact rfl)) | (have tx15 : x15.toInt = (I8 v0 50).toInt := by rw [ex15])
    intro b16 eb16
    obtain ⟨x17, ex17, kb16, lb16⟩ := sh_f w_I8.1 k11 (j := 2) (k := 14) (m := 24) rfl
    cases eb16.symm.trans ex17
    have o18 : vp_in v1 24 := vi_of rfl (by omega) (by omega)
    refine ⟨o18, ?_⟩
    have t19 : 0 ≤ (I8 b16 v1.toNatClampNeg).toInt ∧ (I8 b16 v1.toNatClampNeg).toInt ≤ 9 := w_I8.arr 12 2 k11 eb16 kb16 rfl rfl _
    intro x20 ex20
    have rx20 := i_rng x20
    first | (have tx20 : x20.toInt = (I8 b16 v1.toNatClampNeg).toInt := by (rw [ex20]; exact rfl)) | (have tx20 : x20.toInt = (I8 b16 v1.toNatClampNeg).toInt := by rw [ex20])
    intro b21 eb21
    obtain rfl : b16 = b21 := Option.some.inj (eb16.symm.trans eb21)
    have o22 : vp_in v1 24 := vi_of rfl (by omega) (by omega)
    refine ⟨o22, ?_⟩
    intro I23 eI23
    have t24 : (9 : Int32).toInt = 9 := rfl
    have w_I23 : WD Z10 I23 := by rw [eI23]; exact WD_putA w_I8 12 2 k11 eb16 kb16 rfl rfl (by decide) (by constructor <;> omega)
    have f_I23 : FR [(12, 2)] Z10 I8 Z10 I23 := by rw [eI23]; exact FR_upA w_I8.2.1 k11 eb16 kb16 rfl rfl List.mem_cons_self
    have q_I23 : FR Ws_X12_whole Z I Z10 I23 := q_I8.trans w_I.1 w_I.2.1 (f_I23.mono (by decide))
    have u25 : (I23 v0 22).toInt = (I8 v0 22).toInt := by rw [f_I23.2.2.1 v0 12 22 k11 (by decide) (by decide)]
    have u26 : (I23 v0 48).toInt = (I8 v0 48).toInt := by rw [f_I23.2.2.1 v0 12 48 k11 (by decide) (by decide)]
    have u27 : (I23 v0 49).toInt = (I8 v0 49).toInt := by rw [f_I23.2.2.1 v0 12 49 k11 (by decide) (by decide)]
    have u28 : (I23 v0 50).toInt = (I8 v0 50).toInt := by rw [f_I23.2.2.1 v0 12 50 k11 (by decide) (by decide)]
    refine s_X12_findAll w_I23 bd_Z10 v0 k11   (fun  Z31 I29 L30 w_I29 bd_Z31 f_I29 c_Z31  => ?_)
    have q_I29 : FR Ws_X12_whole Z I Z31 I29 := q_I23.trans w_I.1 w_I.2.1 (f_I29.mono (by decide))
    have cp_Z31 : CP Z Z31 := cp_Z10.trans q_I23.1 c_Z31
    have x_Z31 := f_I29.1
    have k32 := (f_I29.1 _ _ k11).1
    have k33 := (f_I29.1 _ _ kb16).1
    have l34 := (f_I29.1 _ _ kb16).2.trans lb16
    have k35 := (f_I29.1 _ _ k11).1
    have e36 := (f_I29.2.1 v0 12 2 k11 (by decide) (by decide)).trans eb16
    have u37 : (I29 v0 22).toInt = (I23 v0 22).toInt := by rw [f_I29.2.2.1 v0 12 22 k11 (by decide) (by decide)]
    intro b38 eb38
    obtain rfl : b16 = b38 := Option.some.inj (e36.symm.trans eb38)
    have o39 : vp_in v1 24 := vi_of rfl (by omega) (by omega)
    refine ⟨o39, ?_⟩
    intro I40 eI40
    have w_I40 : WD Z31 I40 := by rw [eI40]; exact WD_putA w_I29 12 2 k35 e36 k33 rfl rfl (by decide) (by constructor <;> omega)
    have f_I40 : FR [(12, 2)] Z31 I29 Z31 I40 := by rw [eI40]; exact FR_upA w_I29.2.1 k35 e36 k33 rfl rfl List.mem_cons_self
    have q_I40 : FR Ws_X12_whole Z I Z31 I40 := q_I29.trans w_I.1 w_I.2.1 (f_I40.mono (by decide))
    have u41 : (I40 v0 22).toInt = (I29 v0 22).toInt := by rw [f_I40.2.2.1 v0 12 22 k32 (by decide) (by decide)]
    refine s_X12_tellMore w_I40 v0 x13 x14 x15 k32   (fun r42 I43 L44 w_I43 f_I43  => ?_)
    have q_I43 : FR Ws_X12_whole Z I Z31 I43 := q_I40.trans w_I.1 w_I.2.1 (f_I43.mono (by decide))
    have u45 : (I43 v0 22).toInt = (I40 v0 22).toInt := by rw [f_I43.2.2.1 v0 12 22 k32 (by decide) (by decide)]
    have rr42 := i_rng r42
    exact hQ r42 Z31 I43 L44 w_I43 bd_Z31 q_I43 cp_Z31 
  · skip
    first | (have t46 : r4.toInt = (0) := (i_eq rfl (show (0 : Int32).toInt = 0 from rfl)).mp c6) | (have t46 : r4.toInt = (0 : Int32).toInt := (i_eq rfl rfl).mp c6) | skip
    have t47 : (-1 : Int32).toInt = -1 := rfl
    exact hQ (-1 : Int32) Z I1 L w_I1 bd_Z q_I1 cp_Z 
def Ws_X12_shut : List (Nat × Nat) := [(12, 21), (12, 22), (12, 24), (12, 25), (12, 26), (12, 27), (12, 31), (12, 32), (12, 33), (12, 34), (12, 37), (12, 38), (12, 39), (12, 40), (12, 41), (12, 42), (12, 43), (12, 44), (12, 48), (12, 49), (12, 50)]
set_option maxHeartbeats 4000000 in
set_option maxRecDepth 100000 in
theorem s_X12_shut {B : Nat × Nat} {T : Nat} {Z : jZ} {I : jI} {L : jL} (w_I : WD Z I) (bd_Z : BUD B Z T) (v0 : Nat) (v1 : Int32) (kv0 : jk Z v0 12) {Q : Int32 → jZ → jI → jL → Prop} (hQ : ∀ (r : Int32) (Z' : jZ) (I' : jI) (L' : jL), WD Z' I' → BUD B Z' T → FR Ws_X12_shut Z I Z' I' → CP Z Z' → Q r Z' I' L') : f_X12_shut B v0 v1 Z I L Q := by
  unfold f_X12_shut
  have q_I : FR Ws_X12_shut Z I Z I := FR.rf
  have cp_Z : CP Z Z := CP.rf
  have rv1 := i_rng v1
  intro I1 eI1
  have t2 : (0 : Int32).toInt = 0 := rfl
  have w_I1 : WD Z I1 := by rw [eI1]; exact WD_putF w_I 12 22 kv0 (by decide) (by decide) trivial
  have f_I1 : FR [(12, 22)] Z I Z I1 := by rw [eI1]; exact FR_putF kv0 (by decide) List.mem_cons_self
  have q_I1 : FR Ws_X12_shut Z I Z I1 := q_I.trans w_I.1 w_I.2.1 (f_I1.mono (by decide))
  first | (have u3 : (I1 v0 22).toInt = (0) := by (rw [eI1, show jpI I v0 22 (0 : Int32) v0 22 = (0 : Int32) from jpI_at] <;> exact (show (0 : Int32).toInt = 0 from rfl))) | skip
  refine s_X12_isStep w_I1 v0 v1 kv0   (fun r4 p5 => ?_)
  have rr4 := i_rng r4
  refine ⟨fun c6 => ?_, fun c6 => ?_⟩
  · skip
    first | (have t7 : ¬ (r4.toInt = (0)) := (not_congr (i_eq rfl (show (0 : Int32).toInt = 0 from rfl))).mp c6) | (have t7 : ¬ (r4.toInt = (0 : Int32).toInt) := (not_congr (i_eq rfl rfl)).mp c6) | skip
    refine s_X12_findAll w_I1 bd_Z v0 kv0   (fun  Z10 I8 L9 w_I8 bd_Z10 f_I8 c_Z10  => ?_)
    have q_I8 : FR Ws_X12_shut Z I Z10 I8 := q_I1.trans w_I.1 w_I.2.1 (f_I8.mono (by decide))
    have cp_Z10 : CP Z Z10 := cp_Z.trans q_I1.1 c_Z10
    have x_Z10 := f_I8.1
    have k11 := (f_I8.1 _ _ kv0).1
    have u12 : (I8 v0 22).toInt = (I1 v0 22).toInt := by rw [f_I8.2.2.1 v0 12 22 kv0 (by decide) (by decide)]
    intro x13 ex13
    have rx13 := i_rng x13
    first | (have tx13 : x13.toInt = (I8 v0 48).toInt := by (rw [ex13]; exact rfl)) | (have tx13 : x13.toInt = (I8 v0 48).toInt := by rw [ex13])
    intro x14 ex14
    have rx14 := i_rng x14
    first | (have tx14 : x14.toInt = (I8 v0 49).toInt := by (rw [ex14]; exact rfl)) | (have tx14 : x14.toInt = (I8 v0 49).toInt := by rw [ex14])
    intro x15 ex15
    have rx15 := i_rng x15
    first | (have tx15 : x15.toInt = (I8 v0 50).toInt := by (rw [ex15]; exact rfl)) | (have tx15 : x15.toInt = (I8 v0 50).toInt := by rw [ex15])
    intro I16 eI16
    have w_I16 : WD Z10 I16 := by rw [eI16]; exact WD_putF w_I8 12 39 k11 (by decide) (by decide) (by constructor <;> omega)
    have f_I16 : FR [(12, 39)] Z10 I8 Z10 I16 := by rw [eI16]; exact FR_putF k11 (by decide) List.mem_cons_self
    have q_I16 : FR Ws_X12_shut Z I Z10 I16 := q_I8.trans w_I.1 w_I.2.1 (f_I16.mono (by decide))
    have u17 : (I16 v0 22).toInt = (I8 v0 22).toInt := by rw [f_I16.2.2.1 v0 12 22 k11 (by decide) (by decide)]
    have u18 : (I16 v0 48).toInt = (I8 v0 48).toInt := by rw [f_I16.2.2.1 v0 12 48 k11 (by decide) (by decide)]
    have u19 : (I16 v0 49).toInt = (I8 v0 49).toInt := by rw [f_I16.2.2.1 v0 12 49 k11 (by decide) (by decide)]
    have u20 : (I16 v0 50).toInt = (I8 v0 50).toInt := by rw [f_I16.2.2.1 v0 12 50 k11 (by decide) (by decide)]
    first | (have u21 : (I16 v0 39).toInt = v1.toInt := by (rw [eI16, show jpI I8 v0 39 v1 v0 39 = v1 from jpI_at] <;> exact rfl)) | skip
    refine s_X12_findAll w_I16 bd_Z10 v0 k11   (fun  Z24 I22 L23 w_I22 bd_Z24 f_I22 c_Z24  => ?_)
    have q_I22 : FR Ws_X12_shut Z I Z24 I22 := q_I16.trans w_I.1 w_I.2.1 (f_I22.mono (by decide))
    have cp_Z24 : CP Z Z24 := cp_Z10.trans q_I16.1 c_Z24
    have x_Z24 := f_I22.1
    have k25 := (f_I22.1 _ _ k11).1
    have u26 : (I22 v0 22).toInt = (I16 v0 22).toInt := by rw [f_I22.2.2.1 v0 12 22 k11 (by decide) (by decide)]
    have u27 : (I22 v0 39).toInt = (I16 v0 39).toInt := by rw [f_I22.2.2.1 v0 12 39 k11 (by decide) (by decide)]
    intro I28 eI28
    have t29 : (-1 : Int32).toInt = -1 := rfl
    have w_I28 : WD Z24 I28 := by rw [eI28]; exact WD_putF w_I22 12 39 k25 (by decide) (by decide) (by constructor <;> omega)
    have f_I28 : FR [(12, 39)] Z24 I22 Z24 I28 := by rw [eI28]; exact FR_putF k25 (by decide) List.mem_cons_self
    have q_I28 : FR Ws_X12_shut Z I Z24 I28 := q_I22.trans w_I.1 w_I.2.1 (f_I28.mono (by decide))
    have u30 : (I28 v0 22).toInt = (I22 v0 22).toInt := by rw [f_I28.2.2.1 v0 12 22 k25 (by decide) (by decide)]
    first | (have u31 : (I28 v0 39).toInt = (-1) := by (rw [eI28, show jpI I22 v0 39 (-1 : Int32) v0 39 = (-1 : Int32) from jpI_at] <;> exact (show (-1 : Int32).toInt = -1 from rfl))) | skip
    refine s_X12_tellMore w_I28 v0 x13 x14 x15 k25   (fun r32 I33 L34 w_I33 f_I33  => ?_)
    have q_I33 : FR Ws_X12_shut Z I Z24 I33 := q_I28.trans w_I.1 w_I.2.1 (f_I33.mono (by decide))
    have u35 : (I33 v0 22).toInt = (I28 v0 22).toInt := by rw [f_I33.2.2.1 v0 12 22 k25 (by decide) (by decide)]
    have u36 : (I33 v0 39).toInt = (I28 v0 39).toInt := by rw [f_I33.2.2.1 v0 12 39 k25 (by decide) (by decide)]
    have rr32 := i_rng r32
    exact hQ r32 Z24 I33 L34 w_I33 bd_Z24 q_I33 cp_Z24 
  · skip
    first | (have t37 : r4.toInt = (0) := (i_eq rfl (show (0 : Int32).toInt = 0 from rfl)).mp c6) | (have t37 : r4.toInt = (0 : Int32).toInt := (i_eq rfl rfl).mp c6) | skip
    have t38 : (-1 : Int32).toInt = -1 := rfl
    exact hQ (-1 : Int32) Z I1 L w_I1 bd_Z q_I1 cp_Z 
def Ws_X12_peace : List (Nat × Nat) := [(12, 6), (12, 21), (12, 22), (12, 24), (12, 25), (12, 26), (12, 27), (12, 31), (12, 32), (12, 33), (12, 34), (12, 37), (12, 38), (12, 40), (12, 41), (12, 42), (12, 43), (12, 44), (12, 48), (12, 49), (12, 50)]
set_option maxHeartbeats 4000000 in
set_option maxRecDepth 100000 in
theorem l_X12_peace_L38 {B : Nat × Nat} {T : Nat} {Z0 : jZ} {I0 : jI} {Q : Int32 → jZ → jI → jL → Prop} (w0 : WD Z0 I0) (v0 : Nat) (kv0 : jk Z0 v0 12) (v1 : Int32) (v5 : Int32) (hQ : ∀ (r : Int32) (Z' : jZ) (I' : jI) (L' : jL), WD Z' I' → BUD B Z' T → FR Ws_X12_peace Z0 I0 Z' I' → CP Z0 Z' → Q r Z' I' L') {K25 : Nat → Int32 → Int32 → Int32 → Int32 → Int32 → jZ → jI → jL → Prop} {N25 : Int} (hK25 : ∀ (v2 : Int32) (v3 : Int32) (v4 : Int32) (v5 : Int32) (Z : jZ) (I : jI) (L : jL), WD Z I → BUD B Z T → FR Ws_X12_peace Z0 I0 Z I → CP Z0 Z →   (0 ≤ v5.toInt ∧ v5.toInt ≤ 8) → 8 - v5.toInt < N25 → K25 v0 v1 v2 v3 v4 v5 Z I L) : ∀ (n : Nat) (v2 : Int32) (v3 : Int32) (v4 : Int32) (v6 : Int32) (Z : jZ) (I : jI) (L : jL), WD Z I → BUD B Z T → FR Ws_X12_peace Z0 I0 Z I → CP Z0 Z →   (0 ≤ v5.toInt ∧ v5.toInt ≤ 7 ∧ v5.toInt < v6.toInt ∧ v6.toInt ≤ 8) → 8 - v5.toInt ≤ N25 → 8 - v6.toInt < (n : Int) → f_X12_peace_L38 B K25 Q n v0 v1 v2 v3 v4 v5 v6 Z I L := by
  intro n
  induction n with
  | zero =>
    intro v2 v3 v4 v6 Z I L w_I bd_Z q_I cp_Z   li hm25 me
    exfalso
    omega
  | succ n ih =>
    intro v2 v3 v4 v6 Z I L w_I bd_Z q_I cp_Z   li hm25 me
    unfold f_X12_peace_L38
    have rv2 := i_rng v2
    have rv3 := i_rng v3
    have rv4 := i_rng v4
    have rv6 := i_rng v6
    have rv1 := i_rng v1
    have rv5 := i_rng v5
    have kv0_0 := kv0
    have kv0 := (q_I.1 _ _ kv0).1
    have xq_I := q_I.1
    refine ⟨fun c1 => ?_, fun c1 => ?_⟩
    · skip
      first | (have t2 : (8) ≤ v6.toInt := (i_le (show (8 : Int32).toInt = 8 from rfl) rfl).mp c1) | (have t2 : (8 : Int32).toInt ≤ v6.toInt := (i_le rfl rfl).mp c1) | skip
      intro x3 ex3
      have rx3 := i_rng x3
      first | (have tx3 : x3.toInt = v5.toInt + (1) := by (rw [ex3]; exact (i_add rfl (show (1 : Int32).toInt = 1 from rfl) (by omega) (by omega)))) | skip
      exact hK25 v2 v3 v4 x3 Z I L w_I bd_Z q_I cp_Z   (by omega)  (by omega)
    · skip
      first | (have t4 : ¬ ((8) ≤ v6.toInt) := (not_congr (i_le (show (8 : Int32).toInt = 8 from rfl) rfl)).mp c1) | (have t4 : ¬ ((8 : Int32).toInt ≤ v6.toInt) := (not_congr (i_le rfl rfl)).mp c1) | skip
      intro b5 eb5
      obtain ⟨x6, ex6, kb5, lb5⟩ := sh_f w_I.1 kv0 (j := 6) (k := 16) (m := 64) rfl
      cases eb5.symm.trans ex6
      have o7 : vp_in (((8 : Int32) * v5) + v6) 64 := vi_of (i_add (i_mul (show (8 : Int32).toInt = 8 from rfl) rfl (by omega) (by omega)) rfl (by omega) (by omega)) (by omega) (by omega)
      refine ⟨o7, ?_⟩
      refine ⟨fun c8 => ?_, fun c8 => ?_⟩
      · skip
        first | (have t9 : ¬ ((I b5 (((8 : Int32) * v5) + v6).toNatClampNeg).toInt = (0)) := (not_congr (i_eq rfl (show (0 : Int32).toInt = 0 from rfl))).mp c8) | (have t9 : ¬ ((I b5 (((8 : Int32) * v5) + v6).toNatClampNeg).toInt = (0 : Int32).toInt) := (not_congr (i_eq rfl rfl)).mp c8) | skip
        have t10 : (0 : Int32).toInt = 0 := rfl
        refine s_X12_setFeud w_I v0 v5 v6 (0 : Int32) kv0  (by omega) (fun  I11 L12 w_I11 f_I11  => ?_)
        have q_I11 : FR Ws_X12_peace Z0 I0 Z I11 := q_I.trans w0.1 w0.2.1 (f_I11.mono (by decide))
        refine s_X12_findAll w_I11 bd_Z v0 kv0   (fun  Z15 I13 L14 w_I13 bd_Z15 f_I13 c_Z15  => ?_)
        have q_I13 : FR Ws_X12_peace Z0 I0 Z15 I13 := q_I11.trans w0.1 w0.2.1 (f_I13.mono (by decide))
        have cp_Z15 : CP Z0 Z15 := cp_Z.trans q_I11.1 c_Z15
        have x_Z15 := f_I13.1
        have k16 := (f_I13.1 _ _ kv0).1
        have k17 := (f_I13.1 _ _ kb5).1
        have l18 := (f_I13.1 _ _ kb5).2.trans lb5
        have k19 := (f_I13.1 _ _ kv0).1
        have e20 := (f_I13.2.1 v0 12 6 kv0 (by decide) (by decide)).trans eb5
        have t21 : (1 : Int32).toInt = 1 := rfl
        refine s_X12_setFeud w_I13 v0 v5 v6 (1 : Int32) k16  (by omega) (fun  I22 L23 w_I22 f_I22  => ?_)
        have q_I22 : FR Ws_X12_peace Z0 I0 Z15 I22 := q_I13.trans w0.1 w0.2.1 (f_I22.mono (by decide))
        refine ⟨fun c24 => ?_, fun c24 => ?_⟩
        · skip
          first | (have t25 : (I22 v0 48).toInt < v1.toInt := (i_lt rfl rfl).mp c24) | (have t25 : (I22 v0 48).toInt < v1.toInt := (i_lt rfl rfl).mp c24) | skip
          unfold f_X12_peace_b129
          intro x26 ex26
          have rx26 := i_rng x26
          first | (have tx26 : x26.toInt = v6.toInt + (1) := by (rw [ex26]; exact (i_add rfl (show (1 : Int32).toInt = 1 from rfl) (by omega) (by omega)))) | skip
          exact ih v2 v3 v4 x26 Z15 I22 L23 w_I22 bd_Z15 q_I22 cp_Z15   (by omega) (by omega) (by omega)
        · skip
          first | (have t27 : ¬ ((I22 v0 48).toInt < v1.toInt) := (not_congr (i_lt rfl rfl)).mp c24) | (have t27 : ¬ ((I22 v0 48).toInt < v1.toInt) := (not_congr (i_lt rfl rfl)).mp c24) | skip
          refine ⟨fun c28 => ?_, fun c28 => ?_⟩
          · skip
            first | (have t29 : v2.toInt < (0) := (i_lt rfl (show (0 : Int32).toInt = 0 from rfl)).mp c28) | (have t29 : v2.toInt < (0 : Int32).toInt := (i_lt rfl rfl).mp c28) | skip
            unfold f_X12_peace_b109
            intro x30 ex30
            have rx30 := i_rng x30
            first | (have tx30 : x30.toInt = (((10) * v5.toInt) + v6.toInt) := by (rw [ex30]; exact (i_add (i_mul (show (10 : Int32).toInt = 10 from rfl) rfl (by omega) (by omega)) rfl (by omega) (by omega)))) | (have tx30 : x30.toInt = (((10 : Int32) * v5) + v6).toInt := by rw [ex30])
            intro x31 ex31
            have rx31 := i_rng x31
            first | (have tx31 : x31.toInt = (I22 v0 49).toInt := by (rw [ex31]; exact rfl)) | (have tx31 : x31.toInt = (I22 v0 49).toInt := by rw [ex31])
            intro x32 ex32
            have rx32 := i_rng x32
            first | (have tx32 : x32.toInt = (I22 v0 48).toInt := by (rw [ex32]; exact rfl)) | (have tx32 : x32.toInt = (I22 v0 48).toInt := by rw [ex32])
            unfold f_X12_peace_b129
            intro x33 ex33
            have rx33 := i_rng x33
            first | (have tx33 : x33.toInt = v6.toInt + (1) := by (rw [ex33]; exact (i_add rfl (show (1 : Int32).toInt = 1 from rfl) (by omega) (by omega)))) | skip
            exact ih x30 x31 x32 x33 Z15 I22 L23 w_I22 bd_Z15 q_I22 cp_Z15   (by omega) (by omega) (by omega)
          · skip
            first | (have t34 : ¬ (v2.toInt < (0)) := (not_congr (i_lt rfl (show (0 : Int32).toInt = 0 from rfl))).mp c28) | (have t34 : ¬ (v2.toInt < (0 : Int32).toInt) := (not_congr (i_lt rfl rfl)).mp c28) | skip
            refine ⟨fun c35 => ?_, fun c35 => ?_⟩
            · skip
              first | (have t36 : (I22 v0 49).toInt < v3.toInt := (i_lt rfl rfl).mp c35) | (have t36 : (I22 v0 49).toInt < v3.toInt := (i_lt rfl rfl).mp c35) | skip
              unfold f_X12_peace_b109
              intro x37 ex37
              have rx37 := i_rng x37
              first | (have tx37 : x37.toInt = (((10) * v5.toInt) + v6.toInt) := by (rw [ex37]; exact (i_add (i_mul (show (10 : Int32).toInt = 10 from rfl) rfl (by omega) (by omega)) rfl (by omega) (by omega)))) | (have tx37 : x37.toInt = (((10 : Int32) * v5) + v6).toInt := by rw [ex37])
              intro x38 ex38
              have rx38 := i_rng x38
              first | (have tx38 : x38.toInt = (I22 v0 49).toInt := by (rw [ex38]; exact rfl)) | (have tx38 : x38.toInt = (I22 v0 49).toInt := by rw [ex38])
              intro x39 ex39
              have rx39 := i_rng x39
              first | (have tx39 : x39.toInt = (I22 v0 48).toInt := by (rw [ex39]; exact rfl)) | (have tx39 : x39.toInt = (I22 v0 48).toInt := by rw [ex39])
              unfold f_X12_peace_b129
              intro x40 ex40
              have rx40 := i_rng x40
              first | (have tx40 : x40.toInt = v6.toInt + (1) := by (rw [ex40]; exact (i_add rfl (show (1 : Int32).toInt = 1 from rfl) (by omega) (by omega)))) | skip
              exact ih x37 x38 x39 x40 Z15 I22 L23 w_I22 bd_Z15 q_I22 cp_Z15   (by omega) (by omega) (by omega)
            · skip
              first | (have t41 : ¬ ((I22 v0 49).toInt < v3.toInt) := (not_congr (i_lt rfl rfl)).mp c35) | (have t41 : ¬ ((I22 v0 49).toInt < v3.toInt) := (not_congr (i_lt rfl rfl)).mp c35) | skip
              unfold f_X12_peace_b129
              intro x42 ex42
              have rx42 := i_rng x42
              first | (have tx42 : x42.toInt = v6.toInt + (1) := by (rw [ex42]; exact (i_add rfl (show (1 : Int32).toInt = 1 from rfl) (by omega) (by omega)))) | skip
              exact ih v2 v3 v4 x42 Z15 I22 L23 w_I22 bd_Z15 q_I22 cp_Z15   (by omega) (by omega) (by omega)
      · skip
        first | (have t43 : (I b5 (((8 : Int32) * v5) + v6).toNatClampNeg).toInt = (0) := (i_eq rfl (show (0 : Int32).toInt = 0 from rfl)).mp c8) | (have t43 : (I b5 (((8 : Int32) * v5) + v6).toNatClampNeg).toInt = (0 : Int32).toInt := (i_eq rfl rfl).mp c8) | skip
        unfold f_X12_peace_b129
        intro x44 ex44
        have rx44 := i_rng x44
        first | (have tx44 : x44.toInt = v6.toInt + (1) := by (rw [ex44]; exact (i_add rfl (show (1 : Int32).toInt = 1 from rfl) (by omega) (by omega)))) | skip
        exact ih v2 v3 v4 x44 Z I L w_I bd_Z q_I cp_Z   (by omega) (by omega) (by omega)
set_option maxHeartbeats 4000000 in
set_option maxRecDepth 100000 in
theorem l_X12_peace_L25 {B : Nat × Nat} {T : Nat} {Z0 : jZ} {I0 : jI} {Q : Int32 → jZ → jI → jL → Prop} (w0 : WD Z0 I0) (v0 : Nat) (kv0 : jk Z0 v0 12) (v1 : Int32) (hQ : ∀ (r : Int32) (Z' : jZ) (I' : jI) (L' : jL), WD Z' I' → BUD B Z' T → FR Ws_X12_peace Z0 I0 Z' I' → CP Z0 Z' → Q r Z' I' L') : ∀ (n : Nat) (v2 : Int32) (v3 : Int32) (v4 : Int32) (v5 : Int32) (Z : jZ) (I : jI) (L : jL), WD Z I → BUD B Z T → FR Ws_X12_peace Z0 I0 Z I → CP Z0 Z →   (0 ≤ v5.toInt ∧ v5.toInt ≤ 8) → 8 - v5.toInt < (n : Int) → f_X12_peace_L25 B  Q n v0 v1 v2 v3 v4 v5 Z I L := by
  intro n
  induction n with
  | zero =>
    intro v2 v3 v4 v5 Z I L w_I bd_Z q_I cp_Z   li  me
    exfalso
    omega
  | succ n ih =>
    intro v2 v3 v4 v5 Z I L w_I bd_Z q_I cp_Z   li  me
    unfold f_X12_peace_L25
    have rv2 := i_rng v2
    have rv3 := i_rng v3
    have rv4 := i_rng v4
    have rv5 := i_rng v5
    have rv1 := i_rng v1
    have kv0_0 := kv0
    have kv0 := (q_I.1 _ _ kv0).1
    have xq_I := q_I.1
    refine ⟨fun c45 => ?_, fun c45 => ?_⟩
    · skip
      first | (have t46 : (8) ≤ v5.toInt := (i_le (show (8 : Int32).toInt = 8 from rfl) rfl).mp c45) | (have t46 : (8 : Int32).toInt ≤ v5.toInt := (i_le rfl rfl).mp c45) | skip
      refine ⟨fun c47 => ?_, fun c47 => ?_⟩
      · skip
        first | (have t48 : (0) ≤ v2.toInt := (i_le (show (0 : Int32).toInt = 0 from rfl) rfl).mp c47) | (have t48 : (0 : Int32).toInt ≤ v2.toInt := (i_le rfl rfl).mp c47) | skip
        intro I49 eI49
        have t50 : (0 : Int32).toInt = 0 := rfl
        have w_I49 : WD Z I49 := by rw [eI49]; exact WD_putF w_I 12 21 kv0 (by decide) (by decide) (by constructor <;> omega)
        have f_I49 : FR [(12, 21)] Z I Z I49 := by rw [eI49]; exact FR_putF kv0 (by decide) List.mem_cons_self
        have q_I49 : FR Ws_X12_peace Z0 I0 Z I49 := q_I.trans w0.1 w0.2.1 (f_I49.mono (by decide))
        first | (have u51 : (I49 v0 21).toInt = (0) := by (rw [eI49, show jpI I v0 21 (0 : Int32) v0 21 = (0 : Int32) from jpI_at] <;> exact (show (0 : Int32).toInt = 0 from rfl))) | skip
        refine s_X12_tell w_I49 v0 (v3.toInt64) kv0  (by omega) (fun  I53 L54 w_I53 f_I53 p52 => ?_)
        have q_I53 : FR Ws_X12_peace Z0 I0 Z I53 := q_I49.trans w0.1 w0.2.1 (f_I53.mono (by decide))
        refine s_X12_tell w_I53 v0 (v4.toInt64) kv0  (by omega) (fun  I56 L57 w_I56 f_I56 p55 => ?_)
        have q_I56 : FR Ws_X12_peace Z0 I0 Z I56 := q_I53.trans w0.1 w0.2.1 (f_I56.mono (by decide))
        exact hQ v2 Z I56 L57 w_I56 bd_Z q_I56 cp_Z 
      · skip
        first | (have t58 : ¬ ((0) ≤ v2.toInt) := (not_congr (i_le (show (0 : Int32).toInt = 0 from rfl) rfl)).mp c47) | (have t58 : ¬ ((0 : Int32).toInt ≤ v2.toInt) := (not_congr (i_le rfl rfl)).mp c47) | skip
        have t59 : (-2 : Int32).toInt = -2 := rfl
        exact hQ (-2 : Int32) Z I L w_I bd_Z q_I cp_Z 
    · skip
      first | (have t60 : ¬ ((8) ≤ v5.toInt) := (not_congr (i_le (show (8 : Int32).toInt = 8 from rfl) rfl)).mp c45) | (have t60 : ¬ ((8 : Int32).toInt ≤ v5.toInt) := (not_congr (i_le rfl rfl)).mp c45) | skip
      intro x61 ex61
      have rx61 := i_rng x61
      first | (have tx61 : x61.toInt = (v5.toInt + (1)) := by (rw [ex61]; exact (i_add rfl (show (1 : Int32).toInt = 1 from rfl) (by omega) (by omega)))) | (have tx61 : x61.toInt = (v5 + (1 : Int32)).toInt := by rw [ex61])
      exact ⟨(8 - x61.toInt).toNat + 1, l_X12_peace_L38 w0 v0 kv0_0 v1 v5  hQ ih  _ v2 v3 v4 x61 Z I L w_I bd_Z q_I cp_Z   (by omega) (by omega) (by omega)⟩
set_option maxHeartbeats 4000000 in
set_option maxRecDepth 100000 in
theorem s_X12_peace {B : Nat × Nat} {T : Nat} {Z : jZ} {I : jI} {L : jL} (w_I : WD Z I) (bd_Z : BUD B Z T) (v0 : Nat) (kv0 : jk Z v0 12) {Q : Int32 → jZ → jI → jL → Prop} (hQ : ∀ (r : Int32) (Z' : jZ) (I' : jI) (L' : jL), WD Z' I' → BUD B Z' T → FR Ws_X12_peace Z I Z' I' → CP Z Z' → Q r Z' I' L') : f_X12_peace B v0 Z I L Q := by
  unfold f_X12_peace
  have q_I : FR Ws_X12_peace Z I Z I := FR.rf
  have cp_Z : CP Z Z := CP.rf
  intro I62 eI62
  have t63 : (0 : Int32).toInt = 0 := rfl
  have w_I62 : WD Z I62 := by rw [eI62]; exact WD_putF w_I 12 22 kv0 (by decide) (by decide) trivial
  have f_I62 : FR [(12, 22)] Z I Z I62 := by rw [eI62]; exact FR_putF kv0 (by decide) List.mem_cons_self
  have q_I62 : FR Ws_X12_peace Z I Z I62 := q_I.trans w_I.1 w_I.2.1 (f_I62.mono (by decide))
  first | (have u64 : (I62 v0 22).toInt = (0) := by (rw [eI62, show jpI I v0 22 (0 : Int32) v0 22 = (0 : Int32) from jpI_at] <;> exact (show (0 : Int32).toInt = 0 from rfl))) | skip
  refine s_X12_findAll w_I62 bd_Z v0 kv0   (fun  Z67 I65 L66 w_I65 bd_Z67 f_I65 c_Z67  => ?_)
  have q_I65 : FR Ws_X12_peace Z I Z67 I65 := q_I62.trans w_I.1 w_I.2.1 (f_I65.mono (by decide))
  have cp_Z67 : CP Z Z67 := cp_Z.trans q_I62.1 c_Z67
  have x_Z67 := f_I65.1
  have k68 := (f_I65.1 _ _ kv0).1
  have u69 : (I65 v0 22).toInt = (I62 v0 22).toInt := by rw [f_I65.2.2.1 v0 12 22 kv0 (by decide) (by decide)]
  intro x70 ex70
  have rx70 := i_rng x70
  first | (have tx70 : x70.toInt = (I65 v0 48).toInt := by (rw [ex70]; exact rfl)) | (have tx70 : x70.toInt = (I65 v0 48).toInt := by rw [ex70])
  have t71 : (-2 : Int32).toInt = -2 := rfl
  have t72 : (0 : Int32).toInt = 0 := rfl
  have t73 : (0 : Int32).toInt = 0 := rfl
  have t74 : (0 : Int32).toInt = 0 := rfl
  exact ⟨(8 - (0 : Int32).toInt).toNat + 1, l_X12_peace_L25 w_I v0 kv0 x70  hQ   _ (-2 : Int32) (0 : Int32) (0 : Int32) (0 : Int32) Z67 I65 L66 w_I65 bd_Z67 q_I65 cp_Z67   (by omega)  (by omega)⟩
def Ws_X12_paidTo : List (Nat × Nat) := [(12, 3), (12, 24), (12, 25), (12, 26), (12, 27), (12, 31), (12, 32), (12, 33), (12, 34), (12, 37), (12, 38), (12, 40), (12, 41), (12, 42), (12, 43), (12, 44)]
set_option maxHeartbeats 4000000 in
set_option maxRecDepth 100000 in
theorem l_X12_paidTo_L47 {B : Nat × Nat} {T : Nat} {Z0 : jZ} {I0 : jI} {Q : Int32 → jZ → jI → jL → Prop} (w0 : WD Z0 I0) (v0 : Nat) (v1 : Int32) (v2 : Int32) (kv0 : jk Z0 v0 12) (p0 : 0 ≤ v1.toInt ∧ v1.toInt ≤ 23 ∧ 0 ≤ v2.toInt ∧ v2.toInt ≤ 20) (p1 : 1 ≤ (I0 v0 0).toInt) (v3 : Int32) (v5 : Int32) (hQ : ∀ (r : Int32) (Z' : jZ) (I' : jI) (L' : jL), WD Z' I' → BUD B Z' T → FR Ws_X12_paidTo Z0 I0 Z' I' → CP Z0 Z' → Q r Z' I' L') {K20 : Nat → Int32 → Int32 → Int32 → Int32 → jZ → jI → jL → Prop} {N20 : Int} (hK20 : ∀ (v4 : Int32) (v5 : Int32) (Z : jZ) (I : jI) (L : jL), WD Z I → BUD B Z T → FR Ws_X12_paidTo Z0 I0 Z I → CP Z0 Z →   (0 ≤ v5.toInt ∧ v5.toInt ≤ 6 ∧ 0 ≤ v3.toInt ∧ v3.toInt ≤ 20 ∧ 1 ≤ (I v0 0).toInt) → 6 - v5.toInt < N20 → K20 v0 v1 v3 v4 v5 Z I L) : ∀ (n : Nat) (v4 : Int32) (v6 : Int32) (v7 : Int32) (Z : jZ) (I : jI) (L : jL), WD Z I → BUD B Z T → FR Ws_X12_paidTo Z0 I0 Z I → CP Z0 Z →   (0 ≤ v5.toInt ∧ v5.toInt ≤ 5 ∧ 0 ≤ v3.toInt ∧ v3.toInt ≤ 20 ∧ 1 ≤ (I v0 0).toInt ∧ -1 ≤ v6.toInt ∧ v6.toInt ≤ 23 ∧ 0 ≤ v7.toInt ∧ v7.toInt ≤ 24) → 6 - v5.toInt ≤ N20 → 24 - v7.toInt < (n : Int) → f_X12_paidTo_L47 B K20 Q n v0 v1 v3 v4 v5 v6 v7 Z I L := by
  intro n
  induction n with
  | zero =>
    intro v4 v6 v7 Z I L w_I bd_Z q_I cp_Z   li hm20 me
    exfalso
    omega
  | succ n ih =>
    intro v4 v6 v7 Z I L w_I bd_Z q_I cp_Z   li hm20 me
    unfold f_X12_paidTo_L47
    have rv4 := i_rng v4
    have rv6 := i_rng v6
    have rv7 := i_rng v7
    have rv3 := i_rng v3
    have rv5 := i_rng v5
    have rv1 := i_rng v1
    have rv2 := i_rng v2
    have kv0_0 := kv0
    have kv0 := (q_I.1 _ _ kv0).1
    have t1 : 0 ≤ (I v0 0).toInt ∧ (I v0 0).toInt ≤ 24 := w_I.fld 12 0 kv0 (by decide)
    have xq_I := q_I.1
    have t3 : 0 ≤ (I v0 43).toInt ∧ (I v0 43).toInt ≤ 24 := w_I.fld 12 43 kv0 (by decide)
    refine ⟨fun c4 => ?_, fun c4 => ?_⟩
    · skip
      first | (have t5 : (I v0 43).toInt ≤ v7.toInt := (i_le rfl rfl).mp c4) | (have t5 : (I v0 43).toInt ≤ v7.toInt := (i_le rfl rfl).mp c4) | skip
      unfold f_X12_paidTo_b124
      intro x6 ex6
      have rx6 := i_rng x6
      first | (have tx6 : x6.toInt = v5.toInt + (1) := by (rw [ex6]; exact (i_add rfl (show (1 : Int32).toInt = 1 from rfl) (by omega) (by omega)))) | skip
      exact hK20 v4 x6 Z I L w_I bd_Z q_I cp_Z   (by omega)  (by omega)
    · skip
      first | (have t7 : ¬ ((I v0 43).toInt ≤ v7.toInt) := (not_congr (i_le rfl rfl)).mp c4) | (have t7 : ¬ ((I v0 43).toInt ≤ v7.toInt) := (not_congr (i_le rfl rfl)).mp c4) | skip
      intro b8 eb8
      obtain ⟨x9, ex9, kb8, lb8⟩ := sh_f w_I.1 kv0 (j := 44) (k := 14) (m := 24) rfl
      cases eb8.symm.trans ex9
      have o10 : vp_in v7 24 := vi_of rfl (by omega) (by omega)
      refine ⟨o10, ?_⟩
      have t11 : 0 ≤ (I b8 v7.toNatClampNeg).toInt ∧ (I b8 v7.toNatClampNeg).toInt ≤ 23 := w_I.arr 12 44 kv0 eb8 kb8 rfl rfl _
      intro x12 ex12
      have rx12 := i_rng x12
      first | (have tx12 : x12.toInt = (I b8 v7.toNatClampNeg).toInt := by (rw [ex12]; exact rfl)) | (have tx12 : x12.toInt = (I b8 v7.toNatClampNeg).toInt := by rw [ex12])
      refine ⟨fun c13 => ?_, fun c13 => ?_⟩
      · skip
        first | (have t14 : v1.toInt ≤ v6.toInt := (i_le rfl rfl).mp c13) | (have t14 : v1.toInt ≤ v6.toInt := (i_le rfl rfl).mp c13) | skip
        unfold f_X12_paidTo_b114
        intro x15 ex15
        have rx15 := i_rng x15
        first | (have tx15 : x15.toInt = v7.toInt + (1) := by (rw [ex15]; exact (i_add rfl (show (1 : Int32).toInt = 1 from rfl) (by omega) (by omega)))) | skip
        exact ih v4 x12 x15 Z I L w_I bd_Z q_I cp_Z   (by omega) (by omega) (by omega)
      · skip
        first | (have t16 : ¬ (v1.toInt ≤ v6.toInt) := (not_congr (i_le rfl rfl)).mp c13) | (have t16 : ¬ (v1.toInt ≤ v6.toInt) := (not_congr (i_le rfl rfl)).mp c13) | skip
        refine ⟨fun c17 => ?_, fun c17 => ?_⟩
        · skip
          first | (have t18 : x12.toInt < v1.toInt := (i_lt rfl rfl).mp c17) | (have t18 : x12.toInt < v1.toInt := (i_lt rfl rfl).mp c17) | skip
          unfold f_X12_paidTo_b114
          intro x19 ex19
          have rx19 := i_rng x19
          first | (have tx19 : x19.toInt = v7.toInt + (1) := by (rw [ex19]; exact (i_add rfl (show (1 : Int32).toInt = 1 from rfl) (by omega) (by omega)))) | skip
          exact ih v4 x12 x19 Z I L w_I bd_Z q_I cp_Z   (by omega) (by omega) (by omega)
        · skip
          first | (have t20 : ¬ (x12.toInt < v1.toInt) := (not_congr (i_lt rfl rfl)).mp c17) | (have t20 : ¬ (x12.toInt < v1.toInt) := (not_congr (i_lt rfl rfl)).mp c17) | skip
          refine ⟨fun c21 => ?_, fun c21 => ?_⟩
          · skip
            first | (have t22 : ¬ (v1.toInt = x12.toInt) := (not_congr (i_eq rfl rfl)).mp c21) | (have t22 : ¬ (v1.toInt = x12.toInt) := (not_congr (i_eq rfl rfl)).mp c21) | skip
            unfold f_X12_paidTo_b91
            intro b23 eb23
            obtain ⟨x24, ex24, kb23, lb23⟩ := sh_f w_I.1 kv0 (j := 12) (k := 14) (m := 6) rfl
            cases eb23.symm.trans ex24
            have o25 : vp_in v5 6 := vi_of rfl (by omega) (by omega)
            refine ⟨o25, ?_⟩
            have t26 : 0 ≤ (I b23 v5.toNatClampNeg).toInt ∧ (I b23 v5.toNatClampNeg).toInt ≤ 50 := w_I.arr 12 12 kv0 eb23 kb23 rfl rfl _
            have t27 : (1 : Int32).toInt = 1 := rfl
            try (have t28 : ((x12 - v6) - (1 : Int32)).toInt = ((x12.toInt - v6.toInt) - (1)) := (i_sub (i_sub rfl rfl (by omega) (by omega)) (show (1 : Int32).toInt = 1 from rfl) (by omega) (by omega)))
            refine s_X12_lawOf w_I bd_Z v0 (1 : Int32) v1 v6 (I b23 v5.toNatClampNeg) ((x12 - v6) - (1 : Int32)) kv0  (by omega) (fun r29 Z33 I31 L32 w_I31 bd_Z33 f_I31 c_Z33 p30 => ?_)
            have q_I31 : FR Ws_X12_paidTo Z0 I0 Z33 I31 := q_I.trans w0.1 w0.2.1 (f_I31.mono (by decide))
            have cp_Z33 : CP Z0 Z33 := cp_Z.trans q_I.1 c_Z33
            have x_Z33 := f_I31.1
            have k34 := (f_I31.1 _ _ kv0).1
            have k35 := (f_I31.1 _ _ kb8).1
            have l36 := (f_I31.1 _ _ kb8).2.trans lb8
            have k37 := (f_I31.1 _ _ kv0).1
            have e38 := (f_I31.2.1 v0 12 44 kv0 (by decide) (by decide)).trans eb8
            have k39 := (f_I31.1 _ _ kb23).1
            have l40 := (f_I31.1 _ _ kb23).2.trans lb23
            have k41 := (f_I31.1 _ _ kv0).1
            have e42 := (f_I31.2.1 v0 12 12 kv0 (by decide) (by decide)).trans eb23
            have u43 : (I31 v0 0).toInt = (I v0 0).toInt := by rw [f_I31.2.2.1 v0 12 0 kv0 (by decide) (by decide)]
            have u44 : (I31 v0 43).toInt = (I v0 43).toInt := by rw [f_I31.2.2.1 v0 12 43 kv0 (by decide) (by decide)]
            have rr29 := i_rng r29
            intro x45 ex45
            have rx45 := i_rng x45
            first | (have tx45 : x45.toInt = (v4.toInt + r29.toInt) := by (rw [ex45]; exact (i_add rfl rfl (by omega) (by omega)))) | (have tx45 : x45.toInt = (v4 + r29).toInt := by rw [ex45])
            unfold f_X12_paidTo_b114
            intro x46 ex46
            have rx46 := i_rng x46
            first | (have tx46 : x46.toInt = v7.toInt + (1) := by (rw [ex46]; exact (i_add rfl (show (1 : Int32).toInt = 1 from rfl) (by omega) (by omega)))) | skip
            exact ih x45 x12 x46 Z33 I31 L32 w_I31 bd_Z33 q_I31 cp_Z33   (by omega) (by omega) (by omega)
          · skip
            first | (have t47 : v1.toInt = x12.toInt := (i_eq rfl rfl).mp c21) | (have t47 : v1.toInt = x12.toInt := (i_eq rfl rfl).mp c21) | skip
            unfold f_X12_paidTo_b91
            intro b48 eb48
            obtain ⟨x49, ex49, kb48, lb48⟩ := sh_f w_I.1 kv0 (j := 12) (k := 14) (m := 6) rfl
            cases eb48.symm.trans ex49
            have o50 : vp_in v5 6 := vi_of rfl (by omega) (by omega)
            refine ⟨o50, ?_⟩
            have t51 : 0 ≤ (I b48 v5.toNatClampNeg).toInt ∧ (I b48 v5.toNatClampNeg).toInt ≤ 50 := w_I.arr 12 12 kv0 eb48 kb48 rfl rfl _
            have t52 : (0 : Int32).toInt = 0 := rfl
            try (have t53 : ((x12 - v6) - (1 : Int32)).toInt = ((x12.toInt - v6.toInt) - (1)) := (i_sub (i_sub rfl rfl (by omega) (by omega)) (show (1 : Int32).toInt = 1 from rfl) (by omega) (by omega)))
            refine s_X12_lawOf w_I bd_Z v0 (0 : Int32) v1 v6 (I b48 v5.toNatClampNeg) ((x12 - v6) - (1 : Int32)) kv0  (by omega) (fun r54 Z58 I56 L57 w_I56 bd_Z58 f_I56 c_Z58 p55 => ?_)
            have q_I56 : FR Ws_X12_paidTo Z0 I0 Z58 I56 := q_I.trans w0.1 w0.2.1 (f_I56.mono (by decide))
            have cp_Z58 : CP Z0 Z58 := cp_Z.trans q_I.1 c_Z58
            have x_Z58 := f_I56.1
            have k59 := (f_I56.1 _ _ kv0).1
            have k60 := (f_I56.1 _ _ kb8).1
            have l61 := (f_I56.1 _ _ kb8).2.trans lb8
            have k62 := (f_I56.1 _ _ kv0).1
            have e63 := (f_I56.2.1 v0 12 44 kv0 (by decide) (by decide)).trans eb8
            have k64 := (f_I56.1 _ _ kb48).1
            have l65 := (f_I56.1 _ _ kb48).2.trans lb48
            have k66 := (f_I56.1 _ _ kv0).1
            have e67 := (f_I56.2.1 v0 12 12 kv0 (by decide) (by decide)).trans eb48
            have u68 : (I56 v0 0).toInt = (I v0 0).toInt := by rw [f_I56.2.2.1 v0 12 0 kv0 (by decide) (by decide)]
            have u69 : (I56 v0 43).toInt = (I v0 43).toInt := by rw [f_I56.2.2.1 v0 12 43 kv0 (by decide) (by decide)]
            have rr54 := i_rng r54
            intro x70 ex70
            have rx70 := i_rng x70
            first | (have tx70 : x70.toInt = (v4.toInt + r54.toInt) := by (rw [ex70]; exact (i_add rfl rfl (by omega) (by omega)))) | (have tx70 : x70.toInt = (v4 + r54).toInt := by rw [ex70])
            unfold f_X12_paidTo_b114
            intro x71 ex71
            have rx71 := i_rng x71
            first | (have tx71 : x71.toInt = v7.toInt + (1) := by (rw [ex71]; exact (i_add rfl (show (1 : Int32).toInt = 1 from rfl) (by omega) (by omega)))) | skip
            exact ih x70 x12 x71 Z58 I56 L57 w_I56 bd_Z58 q_I56 cp_Z58   (by omega) (by omega) (by omega)
set_option maxHeartbeats 4000000 in
set_option maxRecDepth 100000 in
theorem l_X12_paidTo_L20 {B : Nat × Nat} {T : Nat} {Z0 : jZ} {I0 : jI} {Q : Int32 → jZ → jI → jL → Prop} (w0 : WD Z0 I0) (v0 : Nat) (v1 : Int32) (v2 : Int32) (kv0 : jk Z0 v0 12) (p0 : 0 ≤ v1.toInt ∧ v1.toInt ≤ 23 ∧ 0 ≤ v2.toInt ∧ v2.toInt ≤ 20) (p1 : 1 ≤ (I0 v0 0).toInt) (v3 : Int32) (hQ : ∀ (r : Int32) (Z' : jZ) (I' : jI) (L' : jL), WD Z' I' → BUD B Z' T → FR Ws_X12_paidTo Z0 I0 Z' I' → CP Z0 Z' → Q r Z' I' L') : ∀ (n : Nat) (v4 : Int32) (v5 : Int32) (Z : jZ) (I : jI) (L : jL), WD Z I → BUD B Z T → FR Ws_X12_paidTo Z0 I0 Z I → CP Z0 Z →   (0 ≤ v5.toInt ∧ v5.toInt ≤ 6 ∧ 0 ≤ v3.toInt ∧ v3.toInt ≤ 20 ∧ 1 ≤ (I v0 0).toInt) → 6 - v5.toInt < (n : Int) → f_X12_paidTo_L20 B  Q n v0 v1 v3 v4 v5 Z I L := by
  intro n
  induction n with
  | zero =>
    intro v4 v5 Z I L w_I bd_Z q_I cp_Z   li  me
    exfalso
    omega
  | succ n ih =>
    intro v4 v5 Z I L w_I bd_Z q_I cp_Z   li  me
    unfold f_X12_paidTo_L20
    have rv4 := i_rng v4
    have rv5 := i_rng v5
    have rv3 := i_rng v3
    have rv1 := i_rng v1
    have rv2 := i_rng v2
    have kv0_0 := kv0
    have kv0 := (q_I.1 _ _ kv0).1
    have t72 : 0 ≤ (I v0 0).toInt ∧ (I v0 0).toInt ≤ 24 := w_I.fld 12 0 kv0 (by decide)
    have xq_I := q_I.1
    have t74 : 0 ≤ (I v0 8).toInt ∧ (I v0 8).toInt ≤ 6 := w_I.fld 12 8 kv0 (by decide)
    refine ⟨fun c75 => ?_, fun c75 => ?_⟩
    · skip
      first | (have t76 : (I v0 8).toInt ≤ v5.toInt := (i_le rfl rfl).mp c75) | (have t76 : (I v0 8).toInt ≤ v5.toInt := (i_le rfl rfl).mp c75) | skip
      intro b77 eb77
      obtain ⟨x78, ex78, kb77, lb77⟩ := sh_f w_I.1 kv0 (j := 3) (k := 14) (m := 24) rfl
      cases eb77.symm.trans ex78
      have o79 : vp_in v1 24 := vi_of rfl (by omega) (by omega)
      refine ⟨o79, ?_⟩
      intro I80 eI80
      have w_I80 : WD Z I80 := by rw [eI80]; exact WD_putA w_I 12 3 kv0 eb77 kb77 rfl rfl (by decide) (by constructor <;> omega)
      have f_I80 : FR [(12, 3)] Z I Z I80 := by rw [eI80]; exact FR_upA w_I.2.1 kv0 eb77 kb77 rfl rfl List.mem_cons_self
      have q_I80 : FR Ws_X12_paidTo Z0 I0 Z I80 := q_I.trans w0.1 w0.2.1 (f_I80.mono (by decide))
      have u81 : (I80 v0 0).toInt = (I v0 0).toInt := by rw [f_I80.2.2.1 v0 12 0 kv0 (by decide) (by decide)]
      have u82 : (I80 v0 8).toInt = (I v0 8).toInt := by rw [f_I80.2.2.1 v0 12 8 kv0 (by decide) (by decide)]
      exact hQ v4 Z I80 L w_I80 bd_Z q_I80 cp_Z 
    · skip
      first | (have t83 : ¬ ((I v0 8).toInt ≤ v5.toInt) := (not_congr (i_le rfl rfl)).mp c75) | (have t83 : ¬ ((I v0 8).toInt ≤ v5.toInt) := (not_congr (i_le rfl rfl)).mp c75) | skip
      obtain ⟨b84, eb84, kb84, lb84⟩ := sh_f w_I.1 kv0 (j := 37) (k := 14) (m := 75) rfl
      obtain ⟨b85, eb85, kb85, lb85⟩ := sh_f w_I.1 kv0 (j := 38) (k := 14) (m := 75) rfl
      obtain ⟨b86, eb86, kb86, lb86⟩ := sh_f w_I.1 kv0 (j := 40) (k := 14) (m := 25000) rfl
      obtain ⟨b87, eb87, kb87, lb87⟩ := sh_f w_I.1 kv0 (j := 9) (k := 14) (m := 6) rfl
      obtain ⟨b88, eb88, kb88, lb88⟩ := sh_f w_I.1 kv0 (j := 44) (k := 14) (m := 24) rfl
      refine s_X12_findClimb w_I bd_Z v0 v5 kv0 b84 eb84 b85 eb85 b86 eb86 b87 eb87 b88 eb88 (by omega) (by omega) (fun r89 Z93 I91 L92 w_I91 bd_Z93 f_I91 c_Z93 p90 => ?_)
      have q_I91 : FR Ws_X12_paidTo Z0 I0 Z93 I91 := q_I.trans w0.1 w0.2.1 (f_I91.mono (by decide))
      have cp_Z93 : CP Z0 Z93 := cp_Z.trans q_I.1 c_Z93
      have x_Z93 := f_I91.1
      have k94 := (f_I91.1 _ _ kv0).1
      have k95 := (f_I91.1 _ _ kb84).1
      have l96 := (f_I91.1 _ _ kb84).2.trans lb84
      have k97 := (f_I91.1 _ _ kv0).1
      have e98 := (f_I91.2.1 v0 12 37 kv0 (by decide) (by decide)).trans eb84
      have k99 := (f_I91.1 _ _ kb85).1
      have l100 := (f_I91.1 _ _ kb85).2.trans lb85
      have k101 := (f_I91.1 _ _ kv0).1
      have e102 := (f_I91.2.1 v0 12 38 kv0 (by decide) (by decide)).trans eb85
      have k103 := (f_I91.1 _ _ kb86).1
      have l104 := (f_I91.1 _ _ kb86).2.trans lb86
      have k105 := (f_I91.1 _ _ kv0).1
      have e106 := (f_I91.2.1 v0 12 40 kv0 (by decide) (by decide)).trans eb86
      have k107 := (f_I91.1 _ _ kb87).1
      have l108 := (f_I91.1 _ _ kb87).2.trans lb87
      have k109 := (f_I91.1 _ _ kv0).1
      have e110 := (f_I91.2.1 v0 12 9 kv0 (by decide) (by decide)).trans eb87
      have k111 := (f_I91.1 _ _ kb88).1
      have l112 := (f_I91.1 _ _ kb88).2.trans lb88
      have k113 := (f_I91.1 _ _ kv0).1
      have e114 := (f_I91.2.1 v0 12 44 kv0 (by decide) (by decide)).trans eb88
      have u115 : (I91 v0 0).toInt = (I v0 0).toInt := by rw [f_I91.2.2.1 v0 12 0 kv0 (by decide) (by decide)]
      have u116 : (I91 v0 8).toInt = (I v0 8).toInt := by rw [f_I91.2.2.1 v0 12 8 kv0 (by decide) (by decide)]
      have rr89 := i_rng r89
      refine ⟨fun c117 => ?_, fun c117 => ?_⟩
      · skip
        first | (have t118 : ¬ (r89.toInt = (0)) := (not_congr (i_eq rfl (show (0 : Int32).toInt = 0 from rfl))).mp c117) | (have t118 : ¬ (r89.toInt = (0 : Int32).toInt) := (not_congr (i_eq rfl rfl)).mp c117) | skip
        have t119 : (-1 : Int32).toInt = -1 := rfl
        have t120 : (0 : Int32).toInt = 0 := rfl
        exact ⟨(24 - (0 : Int32).toInt).toNat + 1, l_X12_paidTo_L47 w0 v0 v1 v2 kv0_0 p0 p1 v3 v5  hQ ih  _ v4 (-1 : Int32) (0 : Int32) Z93 I91 L92 w_I91 bd_Z93 q_I91 cp_Z93   (by omega) (by omega) (by omega)⟩
      · skip
        first | (have t121 : r89.toInt = (0) := (i_eq rfl (show (0 : Int32).toInt = 0 from rfl)).mp c117) | (have t121 : r89.toInt = (0 : Int32).toInt := (i_eq rfl rfl).mp c117) | skip
        unfold f_X12_paidTo_b124
        intro x122 ex122
        have rx122 := i_rng x122
        first | (have tx122 : x122.toInt = v5.toInt + (1) := by (rw [ex122]; exact (i_add rfl (show (1 : Int32).toInt = 1 from rfl) (by omega) (by omega)))) | skip
        exact ih v4 x122 Z93 I91 L92 w_I91 bd_Z93 q_I91 cp_Z93   (by omega)  (by omega)
set_option maxHeartbeats 4000000 in
set_option maxRecDepth 100000 in
theorem s_X12_paidTo {B : Nat × Nat} {T : Nat} {Z : jZ} {I : jI} {L : jL} (w_I : WD Z I) (bd_Z : BUD B Z T) (v0 : Nat) (v1 : Int32) (v2 : Int32) (kv0 : jk Z v0 12) (p0 : 0 ≤ v1.toInt ∧ v1.toInt ≤ 23 ∧ 0 ≤ v2.toInt ∧ v2.toInt ≤ 20) (p1 : 1 ≤ (I v0 0).toInt) {Q : Int32 → jZ → jI → jL → Prop} (hQ : ∀ (r : Int32) (Z' : jZ) (I' : jI) (L' : jL), WD Z' I' → BUD B Z' T → FR Ws_X12_paidTo Z I Z' I' → CP Z Z' → Q r Z' I' L') : f_X12_paidTo B v0 v1 v2 Z I L Q := by
  unfold f_X12_paidTo
  have q_I : FR Ws_X12_paidTo Z I Z I := FR.rf
  have cp_Z : CP Z Z := CP.rf
  have rv1 := i_rng v1
  have rv2 := i_rng v2
  have t123 : 0 ≤ (I v0 0).toInt ∧ (I v0 0).toInt ≤ 24 := w_I.fld 12 0 kv0 (by decide)
  intro b124 eb124
  obtain ⟨x125, ex125, kb124, lb124⟩ := sh_f w_I.1 kv0 (j := 3) (k := 14) (m := 24) rfl
  cases eb124.symm.trans ex125
  have o126 : vp_in v1 24 := vi_of rfl (by omega) (by omega)
  refine ⟨o126, ?_⟩
  have t127 : 0 ≤ (I b124 v1.toNatClampNeg).toInt ∧ (I b124 v1.toNatClampNeg).toInt ≤ 20 := w_I.arr 12 3 kv0 eb124 kb124 rfl rfl _
  intro x128 ex128
  have rx128 := i_rng x128
  first | (have tx128 : x128.toInt = (I b124 v1.toNatClampNeg).toInt := by (rw [ex128]; exact rfl)) | (have tx128 : x128.toInt = (I b124 v1.toNatClampNeg).toInt := by rw [ex128])
  intro b129 eb129
  obtain rfl : b124 = b129 := Option.some.inj (eb124.symm.trans eb129)
  have o130 : vp_in v1 24 := vi_of rfl (by omega) (by omega)
  refine ⟨o130, ?_⟩
  intro I131 eI131
  have w_I131 : WD Z I131 := by rw [eI131]; exact WD_putA w_I 12 3 kv0 eb124 kb124 rfl rfl (by decide) (by constructor <;> omega)
  have f_I131 : FR [(12, 3)] Z I Z I131 := by rw [eI131]; exact FR_upA w_I.2.1 kv0 eb124 kb124 rfl rfl List.mem_cons_self
  have q_I131 : FR Ws_X12_paidTo Z I Z I131 := q_I.trans w_I.1 w_I.2.1 (f_I131.mono (by decide))
  have u132 : (I131 v0 0).toInt = (I v0 0).toInt := by rw [f_I131.2.2.1 v0 12 0 kv0 (by decide) (by decide)]
  have t133 : (0 : Int32).toInt = 0 := rfl
  have t134 : (0 : Int32).toInt = 0 := rfl
  exact ⟨(6 - (0 : Int32).toInt).toNat + 1, l_X12_paidTo_L20 w_I v0 v1 v2 kv0 p0 p1 x128  hQ   _ (0 : Int32) (0 : Int32) Z I131 L w_I131 bd_Z q_I131 cp_Z   (by omega)  (by omega)⟩
def Ws_X12_would : List (Nat × Nat) := [(12, 3), (12, 22), (12, 24), (12, 25), (12, 26), (12, 27), (12, 31), (12, 32), (12, 33), (12, 34), (12, 37), (12, 38), (12, 40), (12, 41), (12, 42), (12, 43), (12, 44)]
set_option maxHeartbeats 4000000 in
set_option maxRecDepth 100000 in
theorem s_X12_would {B : Nat × Nat} {T : Nat} {Z : jZ} {I : jI} {L : jL} (w_I : WD Z I) (bd_Z : BUD B Z T) (v0 : Nat) (v1 : Int32) (v2 : Int32) (kv0 : jk Z v0 12) {Q : Int32 → jZ → jI → jL → Prop} (hQ : ∀ (r : Int32) (Z' : jZ) (I' : jI) (L' : jL), WD Z' I' → BUD B Z' T → FR Ws_X12_would Z I Z' I' → CP Z Z' → Q r Z' I' L') : f_X12_would B v0 v1 v2 Z I L Q := by
  unfold f_X12_would
  have q_I : FR Ws_X12_would Z I Z I := FR.rf
  have cp_Z : CP Z Z := CP.rf
  have rv1 := i_rng v1
  have rv2 := i_rng v2
  intro I1 eI1
  have t2 : (0 : Int32).toInt = 0 := rfl
  have w_I1 : WD Z I1 := by rw [eI1]; exact WD_putF w_I 12 22 kv0 (by decide) (by decide) trivial
  have f_I1 : FR [(12, 22)] Z I Z I1 := by rw [eI1]; exact FR_putF kv0 (by decide) List.mem_cons_self
  have q_I1 : FR Ws_X12_would Z I Z I1 := q_I.trans w_I.1 w_I.2.1 (f_I1.mono (by decide))
  first | (have u3 : (I1 v0 22).toInt = (0) := by (rw [eI1, show jpI I v0 22 (0 : Int32) v0 22 = (0 : Int32) from jpI_at] <;> exact (show (0 : Int32).toInt = 0 from rfl))) | skip
  refine s_X12_isStep w_I1 v0 v1 kv0   (fun r4 p5 => ?_)
  have rr4 := i_rng r4
  refine ⟨fun c6 => ?_, fun c6 => ?_⟩
  · skip
    first | (have t7 : r4.toInt = (0) := (i_eq rfl (show (0 : Int32).toInt = 0 from rfl)).mp c6) | (have t7 : r4.toInt = (0 : Int32).toInt := (i_eq rfl rfl).mp c6) | skip
    have t8 : (-1 : Int32).toInt = -1 := rfl
    exact hQ (-1 : Int32) Z I1 L w_I1 bd_Z q_I1 cp_Z 
  · skip
    first | (have t9 : ¬ (r4.toInt = (0)) := (not_congr (i_eq rfl (show (0 : Int32).toInt = 0 from rfl))).mp c6) | (have t9 : ¬ (r4.toInt = (0 : Int32).toInt) := (not_congr (i_eq rfl rfl)).mp c6) | skip
    have t10 : (0 : Int32).toInt = 0 := rfl
    have t11 : (20 : Int32).toInt = 20 := rfl
    refine s_X12_in w_I1 v2 (0 : Int32) (20 : Int32)    (fun r12 p13 => ?_)
    have rr12 := i_rng r12
    refine ⟨fun c14 => ?_, fun c14 => ?_⟩
    · skip
      first | (have t15 : r12.toInt = (0) := (i_eq rfl (show (0 : Int32).toInt = 0 from rfl)).mp c14) | (have t15 : r12.toInt = (0 : Int32).toInt := (i_eq rfl rfl).mp c14) | skip
      have t16 : (-1 : Int32).toInt = -1 := rfl
      exact hQ (-1 : Int32) Z I1 L w_I1 bd_Z q_I1 cp_Z 
    · skip
      first | (have t17 : ¬ (r12.toInt = (0)) := (not_congr (i_eq rfl (show (0 : Int32).toInt = 0 from rfl))).mp c14) | (have t17 : ¬ (r12.toInt = (0 : Int32).toInt) := (not_congr (i_eq rfl rfl)).mp c14) | skip
      refine s_X12_paidTo w_I1 bd_Z v0 v1 v2 kv0  (by omega) (by omega) (fun r18 Z21 I19 L20 w_I19 bd_Z21 f_I19 c_Z21  => ?_)
      have q_I19 : FR Ws_X12_would Z I Z21 I19 := q_I1.trans w_I.1 w_I.2.1 (f_I19.mono (by decide))
      have cp_Z21 : CP Z Z21 := cp_Z.trans q_I1.1 c_Z21
      have x_Z21 := f_I19.1
      have k22 := (f_I19.1 _ _ kv0).1
      have u23 : (I19 v0 22).toInt = (I1 v0 22).toInt := by rw [f_I19.2.2.1 v0 12 22 kv0 (by decide) (by decide)]
      have rr18 := i_rng r18
      exact hQ r18 Z21 I19 L20 w_I19 bd_Z21 q_I19 cp_Z21 
def Ws_X12_findBest : List (Nat × Nat) := [(12, 3), (12, 24), (12, 25), (12, 26), (12, 27), (12, 31), (12, 32), (12, 33), (12, 34), (12, 37), (12, 38), (12, 40), (12, 41), (12, 42), (12, 43), (12, 44), (12, 51)]
set_option maxHeartbeats 4000000 in
set_option maxRecDepth 100000 in
theorem l_X12_findBest_L14 {B : Nat × Nat} {T : Nat} {Z0 : jZ} {I0 : jI} {Q : Int32 → jZ → jI → jL → Prop} (w0 : WD Z0 I0) (v0 : Nat) (v1 : Int32) (kv0 : jk Z0 v0 12) (p0 : 0 ≤ v1.toInt ∧ v1.toInt ≤ 23) (p1 : 1 ≤ (I0 v0 0).toInt) (hQ : ∀ (r : Int32) (Z' : jZ) (I' : jI) (L' : jL), WD Z' I' → BUD B Z' T → FR Ws_X12_findBest Z0 I0 Z' I' → CP Z0 Z' → (0 ≤ r.toInt ∧ r.toInt ≤ 20) → Q r Z' I' L') : ∀ (n : Nat) (v2 : Int32) (v3 : Int32) (Z : jZ) (I : jI) (L : jL), WD Z I → BUD B Z T → FR Ws_X12_findBest Z0 I0 Z I → CP Z0 Z →   (0 ≤ v2.toInt ∧ v2.toInt ≤ 20 ∧ 1 ≤ v3.toInt ∧ v3.toInt ≤ 21 ∧ 1 ≤ (I v0 0).toInt) → 21 - v3.toInt < (n : Int) → f_X12_findBest_L14 B  Q n v0 v1 v2 v3 Z I L := by
  intro n
  induction n with
  | zero =>
    intro v2 v3 Z I L w_I bd_Z q_I cp_Z   li  me
    exfalso
    omega
  | succ n ih =>
    intro v2 v3 Z I L w_I bd_Z q_I cp_Z   li  me
    unfold f_X12_findBest_L14
    have rv2 := i_rng v2
    have rv3 := i_rng v3
    have rv1 := i_rng v1
    have kv0_0 := kv0
    have kv0 := (q_I.1 _ _ kv0).1
    have t1 : 0 ≤ (I v0 0).toInt ∧ (I v0 0).toInt ≤ 24 := w_I.fld 12 0 kv0 (by decide)
    have xq_I := q_I.1
    refine ⟨fun c2 => ?_, fun c2 => ?_⟩
    · skip
      first | (have t3 : (20) < v3.toInt := (i_lt (show (20 : Int32).toInt = 20 from rfl) rfl).mp c2) | (have t3 : (20 : Int32).toInt < v3.toInt := (i_lt rfl rfl).mp c2) | skip
      exact hQ v2 Z I L w_I bd_Z q_I cp_Z (by omega)
    · skip
      first | (have t4 : ¬ ((20) < v3.toInt) := (not_congr (i_lt (show (20 : Int32).toInt = 20 from rfl) rfl)).mp c2) | (have t4 : ¬ ((20 : Int32).toInt < v3.toInt) := (not_congr (i_lt rfl rfl)).mp c2) | skip
      refine s_X12_paidTo w_I bd_Z v0 v1 v3 kv0  (by omega) (by omega) (fun r5 Z8 I6 L7 w_I6 bd_Z8 f_I6 c_Z8  => ?_)
      have q_I6 : FR Ws_X12_findBest Z0 I0 Z8 I6 := q_I.trans w0.1 w0.2.1 (f_I6.mono (by decide))
      have cp_Z8 : CP Z0 Z8 := cp_Z.trans q_I.1 c_Z8
      have x_Z8 := f_I6.1
      have k9 := (f_I6.1 _ _ kv0).1
      have u10 : (I6 v0 0).toInt = (I v0 0).toInt := by rw [f_I6.2.2.1 v0 12 0 kv0 (by decide) (by decide)]
      have rr5 := i_rng r5
      refine ⟨fun c11 => ?_, fun c11 => ?_⟩
      · skip
        first | (have t12 : (I6 v0 51).toInt < r5.toInt := (i_lt rfl rfl).mp c11) | (have t12 : (I6 v0 51).toInt < r5.toInt := (i_lt rfl rfl).mp c11) | skip
        intro I13 eI13
        have w_I13 : WD Z8 I13 := by rw [eI13]; exact WD_putF w_I6 12 51 k9 (by decide) (by decide) trivial
        have f_I13 : FR [(12, 51)] Z8 I6 Z8 I13 := by rw [eI13]; exact FR_putF k9 (by decide) List.mem_cons_self
        have q_I13 : FR Ws_X12_findBest Z0 I0 Z8 I13 := q_I6.trans w0.1 w0.2.1 (f_I13.mono (by decide))
        have u14 : (I13 v0 0).toInt = (I6 v0 0).toInt := by rw [f_I13.2.2.1 v0 12 0 k9 (by decide) (by decide)]
        first | (have u15 : (I13 v0 51).toInt = r5.toInt := by (rw [eI13, show jpI I6 v0 51 r5 v0 51 = r5 from jpI_at] <;> exact rfl)) | skip
        unfold f_X12_findBest_b48
        intro x16 ex16
        have rx16 := i_rng x16
        first | (have tx16 : x16.toInt = v3.toInt + (1) := by (rw [ex16]; exact (i_add rfl (show (1 : Int32).toInt = 1 from rfl) (by omega) (by omega)))) | skip
        exact ih v3 x16 Z8 I13 L7 w_I13 bd_Z8 q_I13 cp_Z8   (by omega)  (by omega)
      · skip
        first | (have t17 : ¬ ((I6 v0 51).toInt < r5.toInt) := (not_congr (i_lt rfl rfl)).mp c11) | (have t17 : ¬ ((I6 v0 51).toInt < r5.toInt) := (not_congr (i_lt rfl rfl)).mp c11) | skip
        unfold f_X12_findBest_b48
        intro x18 ex18
        have rx18 := i_rng x18
        first | (have tx18 : x18.toInt = v3.toInt + (1) := by (rw [ex18]; exact (i_add rfl (show (1 : Int32).toInt = 1 from rfl) (by omega) (by omega)))) | skip
        exact ih v2 x18 Z8 I6 L7 w_I6 bd_Z8 q_I6 cp_Z8   (by omega)  (by omega)
set_option maxHeartbeats 4000000 in
set_option maxRecDepth 100000 in
theorem s_X12_findBest {B : Nat × Nat} {T : Nat} {Z : jZ} {I : jI} {L : jL} (w_I : WD Z I) (bd_Z : BUD B Z T) (v0 : Nat) (v1 : Int32) (kv0 : jk Z v0 12) (p0 : 0 ≤ v1.toInt ∧ v1.toInt ≤ 23) (p1 : 1 ≤ (I v0 0).toInt) {Q : Int32 → jZ → jI → jL → Prop} (hQ : ∀ (r : Int32) (Z' : jZ) (I' : jI) (L' : jL), WD Z' I' → BUD B Z' T → FR Ws_X12_findBest Z I Z' I' → CP Z Z' → (0 ≤ r.toInt ∧ r.toInt ≤ 20) → Q r Z' I' L') : f_X12_findBest B v0 v1 Z I L Q := by
  unfold f_X12_findBest
  have q_I : FR Ws_X12_findBest Z I Z I := FR.rf
  have cp_Z : CP Z Z := CP.rf
  have rv1 := i_rng v1
  have t19 : 0 ≤ (I v0 0).toInt ∧ (I v0 0).toInt ≤ 24 := w_I.fld 12 0 kv0 (by decide)
  have t20 : (0 : Int32).toInt = 0 := rfl
  refine s_X12_paidTo w_I bd_Z v0 v1 (0 : Int32) kv0  (by omega) (by omega) (fun r21 Z24 I22 L23 w_I22 bd_Z24 f_I22 c_Z24  => ?_)
  have q_I22 : FR Ws_X12_findBest Z I Z24 I22 := q_I.trans w_I.1 w_I.2.1 (f_I22.mono (by decide))
  have cp_Z24 : CP Z Z24 := cp_Z.trans q_I.1 c_Z24
  have x_Z24 := f_I22.1
  have k25 := (f_I22.1 _ _ kv0).1
  have u26 : (I22 v0 0).toInt = (I v0 0).toInt := by rw [f_I22.2.2.1 v0 12 0 kv0 (by decide) (by decide)]
  have rr21 := i_rng r21
  intro I27 eI27
  have w_I27 : WD Z24 I27 := by rw [eI27]; exact WD_putF w_I22 12 51 k25 (by decide) (by decide) trivial
  have f_I27 : FR [(12, 51)] Z24 I22 Z24 I27 := by rw [eI27]; exact FR_putF k25 (by decide) List.mem_cons_self
  have q_I27 : FR Ws_X12_findBest Z I Z24 I27 := q_I22.trans w_I.1 w_I.2.1 (f_I27.mono (by decide))
  have u28 : (I27 v0 0).toInt = (I22 v0 0).toInt := by rw [f_I27.2.2.1 v0 12 0 k25 (by decide) (by decide)]
  first | (have u29 : (I27 v0 51).toInt = r21.toInt := by (rw [eI27, show jpI I22 v0 51 r21 v0 51 = r21 from jpI_at] <;> exact rfl)) | skip
  have t30 : (0 : Int32).toInt = 0 := rfl
  have t31 : (1 : Int32).toInt = 1 := rfl
  exact ⟨(21 - (1 : Int32).toInt).toNat + 1, l_X12_findBest_L14 w_I v0 v1 kv0 p0 p1   hQ   _ (0 : Int32) (1 : Int32) Z24 I27 L23 w_I27 bd_Z24 q_I27 cp_Z24   (by omega)  (by omega)⟩
def Ws_X12_best : List (Nat × Nat) := [(12, 3), (12, 21), (12, 22), (12, 24), (12, 25), (12, 26), (12, 27), (12, 31), (12, 32), (12, 33), (12, 34), (12, 37), (12, 38), (12, 40), (12, 41), (12, 42), (12, 43), (12, 44), (12, 51)]
set_option maxHeartbeats 4000000 in
set_option maxRecDepth 100000 in
theorem s_X12_best {B : Nat × Nat} {T : Nat} {Z : jZ} {I : jI} {L : jL} (w_I : WD Z I) (bd_Z : BUD B Z T) (v0 : Nat) (v1 : Int32) (kv0 : jk Z v0 12) {Q : Int32 → jZ → jI → jL → Prop} (hQ : ∀ (r : Int32) (Z' : jZ) (I' : jI) (L' : jL), WD Z' I' → BUD B Z' T → FR Ws_X12_best Z I Z' I' → CP Z Z' → Q r Z' I' L') : f_X12_best B v0 v1 Z I L Q := by
  unfold f_X12_best
  have q_I : FR Ws_X12_best Z I Z I := FR.rf
  have cp_Z : CP Z Z := CP.rf
  have rv1 := i_rng v1
  intro I1 eI1
  have t2 : (0 : Int32).toInt = 0 := rfl
  have w_I1 : WD Z I1 := by rw [eI1]; exact WD_putF w_I 12 22 kv0 (by decide) (by decide) trivial
  have f_I1 : FR [(12, 22)] Z I Z I1 := by rw [eI1]; exact FR_putF kv0 (by decide) List.mem_cons_self
  have q_I1 : FR Ws_X12_best Z I Z I1 := q_I.trans w_I.1 w_I.2.1 (f_I1.mono (by decide))
  first | (have u3 : (I1 v0 22).toInt = (0) := by (rw [eI1, show jpI I v0 22 (0 : Int32) v0 22 = (0 : Int32) from jpI_at] <;> exact (show (0 : Int32).toInt = 0 from rfl))) | skip
  refine s_X12_isStep w_I1 v0 v1 kv0   (fun r4 p5 => ?_)
  have rr4 := i_rng r4
  refine ⟨fun c6 => ?_, fun c6 => ?_⟩
  · skip
    first | (have t7 : ¬ (r4.toInt = (0)) := (not_congr (i_eq rfl (show (0 : Int32).toInt = 0 from rfl))).mp c6) | (have t7 : ¬ (r4.toInt = (0 : Int32).toInt) := (not_congr (i_eq rfl rfl)).mp c6) | skip
    refine s_X12_findBest w_I1 bd_Z v0 v1 kv0  (by omega) (by omega) (fun r8 Z12 I10 L11 w_I10 bd_Z12 f_I10 c_Z12 p9 => ?_)
    have q_I10 : FR Ws_X12_best Z I Z12 I10 := q_I1.trans w_I.1 w_I.2.1 (f_I10.mono (by decide))
    have cp_Z12 : CP Z Z12 := cp_Z.trans q_I1.1 c_Z12
    have x_Z12 := f_I10.1
    have k13 := (f_I10.1 _ _ kv0).1
    have u14 : (I10 v0 22).toInt = (I1 v0 22).toInt := by rw [f_I10.2.2.1 v0 12 22 kv0 (by decide) (by decide)]
    have rr8 := i_rng r8
    intro I15 eI15
    have t16 : (0 : Int32).toInt = 0 := rfl
    have w_I15 : WD Z12 I15 := by rw [eI15]; exact WD_putF w_I10 12 21 k13 (by decide) (by decide) (by constructor <;> omega)
    have f_I15 : FR [(12, 21)] Z12 I10 Z12 I15 := by rw [eI15]; exact FR_putF k13 (by decide) List.mem_cons_self
    have q_I15 : FR Ws_X12_best Z I Z12 I15 := q_I10.trans w_I.1 w_I.2.1 (f_I15.mono (by decide))
    have u17 : (I15 v0 22).toInt = (I10 v0 22).toInt := by rw [f_I15.2.2.1 v0 12 22 k13 (by decide) (by decide)]
    first | (have u18 : (I15 v0 21).toInt = (0) := by (rw [eI15, show jpI I10 v0 21 (0 : Int32) v0 21 = (0 : Int32) from jpI_at] <;> exact (show (0 : Int32).toInt = 0 from rfl))) | skip
    refine s_X12_tell w_I15 v0 ((I15 v0 51).toInt64) k13  (by omega) (fun  I20 L21 w_I20 f_I20 p19 => ?_)
    have q_I20 : FR Ws_X12_best Z I Z12 I20 := q_I15.trans w_I.1 w_I.2.1 (f_I20.mono (by decide))
    have u22 : (I20 v0 22).toInt = (I15 v0 22).toInt := by rw [f_I20.2.2.1 v0 12 22 k13 (by decide) (by decide)]
    have u23 : (I20 v0 51).toInt = (I15 v0 51).toInt := by rw [f_I20.2.2.1 v0 12 51 k13 (by decide) (by decide)]
    exact hQ r8 Z12 I20 L21 w_I20 bd_Z12 q_I20 cp_Z12 
  · skip
    first | (have t24 : r4.toInt = (0) := (i_eq rfl (show (0 : Int32).toInt = 0 from rfl)).mp c6) | (have t24 : r4.toInt = (0 : Int32).toInt := (i_eq rfl rfl).mp c6) | skip
    have t25 : (-1 : Int32).toInt = -1 := rfl
    exact hQ (-1 : Int32) Z I1 L w_I1 bd_Z q_I1 cp_Z 
def Ws_X12_market : List (Nat × Nat) := [(12, 3), (12, 21), (12, 22), (12, 24), (12, 25), (12, 26), (12, 27), (12, 31), (12, 32), (12, 33), (12, 34), (12, 37), (12, 38), (12, 40), (12, 41), (12, 42), (12, 43), (12, 44), (12, 51)]
set_option maxHeartbeats 4000000 in
set_option maxRecDepth 100000 in
theorem l_X12_market_L130 {B : Nat × Nat} {T : Nat} {Z0 : jZ} {I0 : jI} {Q : Int32 → jZ → jI → jL → Prop} (w0 : WD Z0 I0) (v0 : Nat) (v1 : Int32) (kv0 : jk Z0 v0 12) (v2 : Int32) (v3 : Int32) (hQ : ∀ (r : Int32) (Z' : jZ) (I' : jI) (L' : jL), WD Z' I' → BUD B Z' T → FR Ws_X12_market Z0 I0 Z' I' → CP Z0 Z' → Q r Z' I' L') : ∀ (n : Nat) (v4 : Int32) (v5 : Int32) (Z : jZ) (I : jI) (L : jL), WD Z I → BUD B Z T → FR Ws_X12_market Z0 I0 Z I → CP Z0 Z →   (0 ≤ v5.toInt ∧ v5.toInt ≤ 24) → 24 - v5.toInt < (n : Int) → f_X12_market_L130 B  Q n v0 v2 v3 v4 v5 Z I L := by
  intro n
  induction n with
  | zero =>
    intro v4 v5 Z I L w_I bd_Z q_I cp_Z   li  me
    exfalso
    omega
  | succ n ih =>
    intro v4 v5 Z I L w_I bd_Z q_I cp_Z   li  me
    unfold f_X12_market_L130
    have rv4 := i_rng v4
    have rv5 := i_rng v5
    have rv2 := i_rng v2
    have rv3 := i_rng v3
    have rv1 := i_rng v1
    have kv0_0 := kv0
    have kv0 := (q_I.1 _ _ kv0).1
    have t1 : 0 ≤ (I v0 0).toInt ∧ (I v0 0).toInt ≤ 24 := w_I.fld 12 0 kv0 (by decide)
    have xq_I := q_I.1
    have t3 : 0 ≤ (I v0 0).toInt ∧ (I v0 0).toInt ≤ 24 := w_I.fld 12 0 kv0 (by decide)
    refine ⟨fun c4 => ?_, fun c4 => ?_⟩
    · skip
      first | (have t5 : (I v0 0).toInt ≤ v5.toInt := (i_le rfl rfl).mp c4) | (have t5 : (I v0 0).toInt ≤ v5.toInt := (i_le rfl rfl).mp c4) | skip
      intro I6 eI6
      have t7 : (0 : Int32).toInt = 0 := rfl
      have w_I6 : WD Z I6 := by rw [eI6]; exact WD_putF w_I 12 21 kv0 (by decide) (by decide) (by constructor <;> omega)
      have f_I6 : FR [(12, 21)] Z I Z I6 := by rw [eI6]; exact FR_putF kv0 (by decide) List.mem_cons_self
      have q_I6 : FR Ws_X12_market Z0 I0 Z I6 := q_I.trans w0.1 w0.2.1 (f_I6.mono (by decide))
      have u8 : (I6 v0 0).toInt = (I v0 0).toInt := by rw [f_I6.2.2.1 v0 12 0 kv0 (by decide) (by decide)]
      first | (have u9 : (I6 v0 21).toInt = (0) := by (rw [eI6, show jpI I v0 21 (0 : Int32) v0 21 = (0 : Int32) from jpI_at] <;> exact (show (0 : Int32).toInt = 0 from rfl))) | skip
      refine ⟨fun c10 => ?_, fun c10 => ?_⟩
      · skip
        first | (have t11 : v3.toInt = (0) := (i_eq rfl (show (0 : Int32).toInt = 0 from rfl)).mp c10) | (have t11 : v3.toInt = (0 : Int32).toInt := (i_eq rfl rfl).mp c10) | skip
        unfold f_X12_market_b172
        refine s_X12_tell w_I6 v0 (0 : Int64) kv0  (by omega) (fun  I13 L14 w_I13 f_I13 p12 => ?_)
        have q_I13 : FR Ws_X12_market Z0 I0 Z I13 := q_I6.trans w0.1 w0.2.1 (f_I13.mono (by decide))
        have u15 : (I13 v0 0).toInt = (I6 v0 0).toInt := by rw [f_I13.2.2.1 v0 12 0 kv0 (by decide) (by decide)]
        refine s_X12_tell w_I13 v0 (v4.toInt64) kv0  (by omega) (fun  I17 L18 w_I17 f_I17 p16 => ?_)
        have q_I17 : FR Ws_X12_market Z0 I0 Z I17 := q_I13.trans w0.1 w0.2.1 (f_I17.mono (by decide))
        have u19 : (I17 v0 0).toInt = (I13 v0 0).toInt := by rw [f_I17.2.2.1 v0 12 0 kv0 (by decide) (by decide)]
        exact hQ v2 Z I17 L18 w_I17 bd_Z q_I17 cp_Z 
      · skip
        first | (have t20 : ¬ (v3.toInt = (0)) := (not_congr (i_eq rfl (show (0 : Int32).toInt = 0 from rfl))).mp c10) | (have t20 : ¬ (v3.toInt = (0 : Int32).toInt) := (not_congr (i_eq rfl rfl)).mp c10) | skip
        unfold f_X12_market_b172
        refine s_X12_tell w_I6 v0 (1 : Int64) kv0  (by omega) (fun  I22 L23 w_I22 f_I22 p21 => ?_)
        have q_I22 : FR Ws_X12_market Z0 I0 Z I22 := q_I6.trans w0.1 w0.2.1 (f_I22.mono (by decide))
        have u24 : (I22 v0 0).toInt = (I6 v0 0).toInt := by rw [f_I22.2.2.1 v0 12 0 kv0 (by decide) (by decide)]
        refine s_X12_tell w_I22 v0 (v4.toInt64) kv0  (by omega) (fun  I26 L27 w_I26 f_I26 p25 => ?_)
        have q_I26 : FR Ws_X12_market Z0 I0 Z I26 := q_I22.trans w0.1 w0.2.1 (f_I26.mono (by decide))
        have u28 : (I26 v0 0).toInt = (I22 v0 0).toInt := by rw [f_I26.2.2.1 v0 12 0 kv0 (by decide) (by decide)]
        exact hQ v2 Z I26 L27 w_I26 bd_Z q_I26 cp_Z 
    · skip
      first | (have t29 : ¬ ((I v0 0).toInt ≤ v5.toInt) := (not_congr (i_le rfl rfl)).mp c4) | (have t29 : ¬ ((I v0 0).toInt ≤ v5.toInt) := (not_congr (i_le rfl rfl)).mp c4) | skip
      intro b30 eb30
      obtain ⟨x31, ex31, kb30, lb30⟩ := sh_f w_I.1 kv0 (j := 3) (k := 14) (m := 24) rfl
      cases eb30.symm.trans ex31
      have o32 : vp_in v5 24 := vi_of rfl (by omega) (by omega)
      refine ⟨o32, ?_⟩
      have t33 : 0 ≤ (I b30 v5.toNatClampNeg).toInt ∧ (I b30 v5.toNatClampNeg).toInt ≤ 20 := w_I.arr 12 3 kv0 eb30 kb30 rfl rfl _
      intro x34 ex34
      have rx34 := i_rng x34
      first | (have tx34 : x34.toInt = (v4.toInt + (I b30 v5.toNatClampNeg).toInt) := by (rw [ex34]; exact (i_add rfl rfl (by omega) (by omega)))) | (have tx34 : x34.toInt = (v4 + (I b30 v5.toNatClampNeg)).toInt := by rw [ex34])
      intro x35 ex35
      have rx35 := i_rng x35
      first | (have tx35 : x35.toInt = v5.toInt + (1) := by (rw [ex35]; exact (i_add rfl (show (1 : Int32).toInt = 1 from rfl) (by omega) (by omega)))) | skip
      exact ih x34 x35 Z I L w_I bd_Z q_I cp_Z   (by omega)  (by omega)
set_option maxHeartbeats 4000000 in
set_option maxRecDepth 100000 in
theorem l_X12_market_L45 {B : Nat × Nat} {T : Nat} {Z0 : jZ} {I0 : jI} {Q : Int32 → jZ → jI → jL → Prop} (w0 : WD Z0 I0) (v0 : Nat) (v1 : Int32) (kv0 : jk Z0 v0 12) (v2 : Int32) (v4 : Int32) (hQ : ∀ (r : Int32) (Z' : jZ) (I' : jI) (L' : jL), WD Z' I' → BUD B Z' T → FR Ws_X12_market Z0 I0 Z' I' → CP Z0 Z' → Q r Z' I' L') {K30 : Nat → Int32 → Int32 → Int32 → Int32 → jZ → jI → jL → Prop} {N30 : Int} (hK30 : ∀ (v2 : Int32) (v3 : Int32) (v4 : Int32) (Z : jZ) (I : jI) (L : jL), WD Z I → BUD B Z T → FR Ws_X12_market Z0 I0 Z I → CP Z0 Z →   (0 ≤ v4.toInt ∧ v4.toInt ≤ 3 ∧ v1.toInt ≤ 3 ∧ 1 ≤ (I v0 0).toInt) → 3 - v4.toInt < N30 → K30 v0 v1 v2 v3 v4 Z I L) : ∀ (n : Nat) (v3 : Int32) (v5 : Int32) (Z : jZ) (I : jI) (L : jL), WD Z I → BUD B Z T → FR Ws_X12_market Z0 I0 Z I → CP Z0 Z →   (0 ≤ v4.toInt ∧ v4.toInt ≤ 2 ∧ v1.toInt ≤ 3 ∧ 1 ≤ (I v0 0).toInt ∧ 0 ≤ v5.toInt ∧ v5.toInt ≤ 24) → 3 - v4.toInt ≤ N30 → 24 - v5.toInt < (n : Int) → f_X12_market_L45 B K30 Q n v0 v1 v2 v3 v4 v5 Z I L := by
  intro n
  induction n with
  | zero =>
    intro v3 v5 Z I L w_I bd_Z q_I cp_Z   li hm30 me
    exfalso
    omega
  | succ n ih =>
    intro v3 v5 Z I L w_I bd_Z q_I cp_Z   li hm30 me
    unfold f_X12_market_L45
    have rv3 := i_rng v3
    have rv5 := i_rng v5
    have rv2 := i_rng v2
    have rv4 := i_rng v4
    have rv1 := i_rng v1
    have kv0_0 := kv0
    have kv0 := (q_I.1 _ _ kv0).1
    have t36 : 0 ≤ (I v0 0).toInt ∧ (I v0 0).toInt ≤ 24 := w_I.fld 12 0 kv0 (by decide)
    have xq_I := q_I.1
    have t38 : 0 ≤ (I v0 0).toInt ∧ (I v0 0).toInt ≤ 24 := w_I.fld 12 0 kv0 (by decide)
    refine ⟨fun c39 => ?_, fun c39 => ?_⟩
    · skip
      first | (have t40 : (I v0 0).toInt ≤ v5.toInt := (i_le rfl rfl).mp c39) | (have t40 : (I v0 0).toInt ≤ v5.toInt := (i_le rfl rfl).mp c39) | skip
      refine ⟨fun c41 => ?_, fun c41 => ?_⟩
      · skip
        first | (have t42 : v3.toInt = (0) := (i_eq rfl (show (0 : Int32).toInt = 0 from rfl)).mp c41) | (have t42 : v3.toInt = (0 : Int32).toInt := (i_eq rfl rfl).mp c41) | skip
        unfold f_X12_market_b116
        intro x43 ex43
        have rx43 := i_rng x43
        first | (have tx43 : x43.toInt = (v2.toInt + (1)) := by (rw [ex43]; exact (i_add rfl (show (1 : Int32).toInt = 1 from rfl) (by omega) (by omega)))) | (have tx43 : x43.toInt = (v2 + (1 : Int32)).toInt := by rw [ex43])
        intro x44 ex44
        have rx44 := i_rng x44
        first | (have tx44 : x44.toInt = v4.toInt + (1) := by (rw [ex44]; exact (i_add rfl (show (1 : Int32).toInt = 1 from rfl) (by omega) (by omega)))) | skip
        exact hK30 x43 v3 x44 Z I L w_I bd_Z q_I cp_Z   (by omega)  (by omega)
      · skip
        first | (have t45 : ¬ (v3.toInt = (0)) := (not_congr (i_eq rfl (show (0 : Int32).toInt = 0 from rfl))).mp c41) | (have t45 : ¬ (v3.toInt = (0 : Int32).toInt) := (not_congr (i_eq rfl rfl)).mp c41) | skip
        unfold f_X12_market_b116
        intro x46 ex46
        have rx46 := i_rng x46
        first | (have tx46 : x46.toInt = (v2.toInt + (0)) := by (rw [ex46]; exact (i_add rfl (show (0 : Int32).toInt = 0 from rfl) (by omega) (by omega)))) | (have tx46 : x46.toInt = (v2 + (0 : Int32)).toInt := by rw [ex46])
        intro x47 ex47
        have rx47 := i_rng x47
        first | (have tx47 : x47.toInt = v4.toInt + (1) := by (rw [ex47]; exact (i_add rfl (show (1 : Int32).toInt = 1 from rfl) (by omega) (by omega)))) | skip
        exact hK30 x46 v3 x47 Z I L w_I bd_Z q_I cp_Z   (by omega)  (by omega)
    · skip
      first | (have t48 : ¬ ((I v0 0).toInt ≤ v5.toInt) := (not_congr (i_le rfl rfl)).mp c39) | (have t48 : ¬ ((I v0 0).toInt ≤ v5.toInt) := (not_congr (i_le rfl rfl)).mp c39) | skip
      intro b49 eb49
      obtain ⟨x50, ex50, kb49, lb49⟩ := sh_f w_I.1 kv0 (j := 3) (k := 14) (m := 24) rfl
      cases eb49.symm.trans ex50
      have o51 : vp_in v5 24 := vi_of rfl (by omega) (by omega)
      refine ⟨o51, ?_⟩
      have t52 : 0 ≤ (I b49 v5.toNatClampNeg).toInt ∧ (I b49 v5.toNatClampNeg).toInt ≤ 20 := w_I.arr 12 3 kv0 eb49 kb49 rfl rfl _
      refine s_X12_paidTo w_I bd_Z v0 v5 (I b49 v5.toNatClampNeg) kv0  (by omega) (by omega) (fun r53 Z56 I54 L55 w_I54 bd_Z56 f_I54 c_Z56  => ?_)
      have q_I54 : FR Ws_X12_market Z0 I0 Z56 I54 := q_I.trans w0.1 w0.2.1 (f_I54.mono (by decide))
      have cp_Z56 : CP Z0 Z56 := cp_Z.trans q_I.1 c_Z56
      have x_Z56 := f_I54.1
      have k57 := (f_I54.1 _ _ kv0).1
      have k58 := (f_I54.1 _ _ kb49).1
      have l59 := (f_I54.1 _ _ kb49).2.trans lb49
      have k60 := (f_I54.1 _ _ kv0).1
      have e61 := (f_I54.2.1 v0 12 3 kv0 (by decide) (by decide)).trans eb49
      have u62 : (I54 v0 0).toInt = (I v0 0).toInt := by rw [f_I54.2.2.1 v0 12 0 kv0 (by decide) (by decide)]
      have rr53 := i_rng r53
      refine s_X12_findBest w_I54 bd_Z56 v0 v5 k57  (by omega) (by omega) (fun r63 Z67 I65 L66 w_I65 bd_Z67 f_I65 c_Z67 p64 => ?_)
      have q_I65 : FR Ws_X12_market Z0 I0 Z67 I65 := q_I54.trans w0.1 w0.2.1 (f_I65.mono (by decide))
      have cp_Z67 : CP Z0 Z67 := cp_Z56.trans q_I54.1 c_Z67
      have x_Z67 := f_I65.1
      have k68 := (f_I65.1 _ _ k57).1
      have k69 := (f_I65.1 _ _ k58).1
      have l70 := (f_I65.1 _ _ k58).2.trans l59
      have k71 := (f_I65.1 _ _ k60).1
      have e72 := (f_I65.2.1 v0 12 3 k60 (by decide) (by decide)).trans e61
      have u73 : (I65 v0 0).toInt = (I54 v0 0).toInt := by rw [f_I65.2.2.1 v0 12 0 k57 (by decide) (by decide)]
      have rr63 := i_rng r63
      refine ⟨fun c74 => ?_, fun c74 => ?_⟩
      · skip
        first | (have t75 : r53.toInt < (I65 v0 51).toInt := (i_lt rfl rfl).mp c74) | (have t75 : r53.toInt < (I65 v0 51).toInt := (i_lt rfl rfl).mp c74) | skip
        intro b76 eb76
        obtain rfl : b49 = b76 := Option.some.inj (e72.symm.trans eb76)
        have o77 : vp_in v5 24 := vi_of rfl (by omega) (by omega)
        refine ⟨o77, ?_⟩
        intro I78 eI78
        have w_I78 : WD Z67 I78 := by rw [eI78]; exact WD_putA w_I65 12 3 k71 e72 k69 rfl rfl (by decide) (by constructor <;> omega)
        have f_I78 : FR [(12, 3)] Z67 I65 Z67 I78 := by rw [eI78]; exact FR_upA w_I65.2.1 k71 e72 k69 rfl rfl List.mem_cons_self
        have q_I78 : FR Ws_X12_market Z0 I0 Z67 I78 := q_I65.trans w0.1 w0.2.1 (f_I78.mono (by decide))
        have u79 : (I78 v0 0).toInt = (I65 v0 0).toInt := by rw [f_I78.2.2.1 v0 12 0 k68 (by decide) (by decide)]
        have u80 : (I78 v0 51).toInt = (I65 v0 51).toInt := by rw [f_I78.2.2.1 v0 12 51 k68 (by decide) (by decide)]
        unfold f_X12_market_b100
        intro x81 ex81
        have rx81 := i_rng x81
        first | (have tx81 : x81.toInt = v5.toInt + (1) := by (rw [ex81]; exact (i_add rfl (show (1 : Int32).toInt = 1 from rfl) (by omega) (by omega)))) | skip
        have t82 : (0 : Int32).toInt = 0 := rfl
        exact ih (0 : Int32) x81 Z67 I78 L66 w_I78 bd_Z67 q_I78 cp_Z67   (by omega) (by omega) (by omega)
      · skip
        first | (have t83 : ¬ (r53.toInt < (I65 v0 51).toInt) := (not_congr (i_lt rfl rfl)).mp c74) | (have t83 : ¬ (r53.toInt < (I65 v0 51).toInt) := (not_congr (i_lt rfl rfl)).mp c74) | skip
        unfold f_X12_market_b100
        intro x84 ex84
        have rx84 := i_rng x84
        first | (have tx84 : x84.toInt = v5.toInt + (1) := by (rw [ex84]; exact (i_add rfl (show (1 : Int32).toInt = 1 from rfl) (by omega) (by omega)))) | skip
        exact ih v3 x84 Z67 I65 L66 w_I65 bd_Z67 q_I65 cp_Z67   (by omega) (by omega) (by omega)
set_option maxHeartbeats 4000000 in
set_option maxRecDepth 100000 in
theorem l_X12_market_L30 {B : Nat × Nat} {T : Nat} {Z0 : jZ} {I0 : jI} {Q : Int32 → jZ → jI → jL → Prop} (w0 : WD Z0 I0) (v0 : Nat) (v1 : Int32) (kv0 : jk Z0 v0 12) (hQ : ∀ (r : Int32) (Z' : jZ) (I' : jI) (L' : jL), WD Z' I' → BUD B Z' T → FR Ws_X12_market Z0 I0 Z' I' → CP Z0 Z' → Q r Z' I' L') : ∀ (n : Nat) (v2 : Int32) (v3 : Int32) (v4 : Int32) (Z : jZ) (I : jI) (L : jL), WD Z I → BUD B Z T → FR Ws_X12_market Z0 I0 Z I → CP Z0 Z →   (0 ≤ v4.toInt ∧ v4.toInt ≤ 3 ∧ v1.toInt ≤ 3 ∧ 1 ≤ (I v0 0).toInt) → 3 - v4.toInt < (n : Int) → f_X12_market_L30 B  Q n v0 v1 v2 v3 v4 Z I L := by
  intro n
  induction n with
  | zero =>
    intro v2 v3 v4 Z I L w_I bd_Z q_I cp_Z   li  me
    exfalso
    omega
  | succ n ih =>
    intro v2 v3 v4 Z I L w_I bd_Z q_I cp_Z   li  me
    unfold f_X12_market_L30
    have rv2 := i_rng v2
    have rv3 := i_rng v3
    have rv4 := i_rng v4
    have rv1 := i_rng v1
    have kv0_0 := kv0
    have kv0 := (q_I.1 _ _ kv0).1
    have t85 : 0 ≤ (I v0 0).toInt ∧ (I v0 0).toInt ≤ 24 := w_I.fld 12 0 kv0 (by decide)
    have xq_I := q_I.1
    refine ⟨fun c86 => ?_, fun c86 => ?_⟩
    · skip
      first | (have t87 : v1.toInt ≤ v4.toInt := (i_le rfl rfl).mp c86) | (have t87 : v1.toInt ≤ v4.toInt := (i_le rfl rfl).mp c86) | skip
      unfold f_X12_market_b124
      have t88 : (0 : Int32).toInt = 0 := rfl
      have t89 : (0 : Int32).toInt = 0 := rfl
      exact ⟨(24 - (0 : Int32).toInt).toNat + 1, l_X12_market_L130 w0 v0 v1 kv0_0 v2 v3  hQ   _ (0 : Int32) (0 : Int32) Z I L w_I bd_Z q_I cp_Z   (by omega)  (by omega)⟩
    · skip
      first | (have t90 : ¬ (v1.toInt ≤ v4.toInt) := (not_congr (i_le rfl rfl)).mp c86) | (have t90 : ¬ (v1.toInt ≤ v4.toInt) := (not_congr (i_le rfl rfl)).mp c86) | skip
      refine ⟨fun c91 => ?_, fun c91 => ?_⟩
      · skip
        first | (have t92 : ¬ (v3.toInt = (0)) := (not_congr (i_eq rfl (show (0 : Int32).toInt = 0 from rfl))).mp c91) | (have t92 : ¬ (v3.toInt = (0 : Int32).toInt) := (not_congr (i_eq rfl rfl)).mp c91) | skip
        unfold f_X12_market_b124
        have t93 : (0 : Int32).toInt = 0 := rfl
        have t94 : (0 : Int32).toInt = 0 := rfl
        exact ⟨(24 - (0 : Int32).toInt).toNat + 1, l_X12_market_L130 w0 v0 v1 kv0_0 v2 v3  hQ   _ (0 : Int32) (0 : Int32) Z I L w_I bd_Z q_I cp_Z   (by omega)  (by omega)⟩
      · skip
        first | (have t95 : v3.toInt = (0) := (i_eq rfl (show (0 : Int32).toInt = 0 from rfl)).mp c91) | (have t95 : v3.toInt = (0 : Int32).toInt := (i_eq rfl rfl).mp c91) | skip
        have t96 : (1 : Int32).toInt = 1 := rfl
        have t97 : (0 : Int32).toInt = 0 := rfl
        exact ⟨(24 - (0 : Int32).toInt).toNat + 1, l_X12_market_L45 w0 v0 v1 kv0_0 v2 v4  hQ ih  _ (1 : Int32) (0 : Int32) Z I L w_I bd_Z q_I cp_Z   (by omega) (by omega) (by omega)⟩
set_option maxHeartbeats 4000000 in
set_option maxRecDepth 100000 in
theorem s_X12_market {B : Nat × Nat} {T : Nat} {Z : jZ} {I : jI} {L : jL} (w_I : WD Z I) (bd_Z : BUD B Z T) (v0 : Nat) (v1 : Int32) (kv0 : jk Z v0 12) {Q : Int32 → jZ → jI → jL → Prop} (hQ : ∀ (r : Int32) (Z' : jZ) (I' : jI) (L' : jL), WD Z' I' → BUD B Z' T → FR Ws_X12_market Z I Z' I' → CP Z Z' → Q r Z' I' L') : f_X12_market B v0 v1 Z I L Q := by
  unfold f_X12_market
  have q_I : FR Ws_X12_market Z I Z I := FR.rf
  have cp_Z : CP Z Z := CP.rf
  have rv1 := i_rng v1
  have t98 : 0 ≤ (I v0 0).toInt ∧ (I v0 0).toInt ≤ 24 := w_I.fld 12 0 kv0 (by decide)
  intro I99 eI99
  have t100 : (0 : Int32).toInt = 0 := rfl
  have w_I99 : WD Z I99 := by rw [eI99]; exact WD_putF w_I 12 22 kv0 (by decide) (by decide) trivial
  have f_I99 : FR [(12, 22)] Z I Z I99 := by rw [eI99]; exact FR_putF kv0 (by decide) List.mem_cons_self
  have q_I99 : FR Ws_X12_market Z I Z I99 := q_I.trans w_I.1 w_I.2.1 (f_I99.mono (by decide))
  have u101 : (I99 v0 0).toInt = (I v0 0).toInt := by rw [f_I99.2.2.1 v0 12 0 kv0 (by decide) (by decide)]
  first | (have u102 : (I99 v0 22).toInt = (0) := by (rw [eI99, show jpI I v0 22 (0 : Int32) v0 22 = (0 : Int32) from jpI_at] <;> exact (show (0 : Int32).toInt = 0 from rfl))) | skip
  have t104 : 0 ≤ (I99 v0 0).toInt ∧ (I99 v0 0).toInt ≤ 24 := w_I99.fld 12 0 kv0 (by decide)
  refine ⟨fun c105 => ?_, fun c105 => ?_⟩
  · skip
    first | (have t106 : (I99 v0 0).toInt = (0) := (i_eq rfl (show (0 : Int32).toInt = 0 from rfl)).mp c105) | (have t106 : (I99 v0 0).toInt = (0 : Int32).toInt := (i_eq rfl rfl).mp c105) | skip
    have t107 : (-1 : Int32).toInt = -1 := rfl
    exact hQ (-1 : Int32) Z I99 L w_I99 bd_Z q_I99 cp_Z 
  · skip
    first | (have t108 : ¬ ((I99 v0 0).toInt = (0)) := (not_congr (i_eq rfl (show (0 : Int32).toInt = 0 from rfl))).mp c105) | (have t108 : ¬ ((I99 v0 0).toInt = (0 : Int32).toInt) := (not_congr (i_eq rfl rfl)).mp c105) | skip
    have t109 : (1 : Int32).toInt = 1 := rfl
    have t110 : (3 : Int32).toInt = 3 := rfl
    refine s_X12_in w_I99 v1 (1 : Int32) (3 : Int32)    (fun r111 p112 => ?_)
    have rr111 := i_rng r111
    refine ⟨fun c113 => ?_, fun c113 => ?_⟩
    · skip
      first | (have t114 : ¬ (r111.toInt = (0)) := (not_congr (i_eq rfl (show (0 : Int32).toInt = 0 from rfl))).mp c113) | (have t114 : ¬ (r111.toInt = (0 : Int32).toInt) := (not_congr (i_eq rfl rfl)).mp c113) | skip
      have t115 : (0 : Int32).toInt = 0 := rfl
      have t116 : (0 : Int32).toInt = 0 := rfl
      have t117 : (0 : Int32).toInt = 0 := rfl
      exact ⟨(3 - (0 : Int32).toInt).toNat + 1, l_X12_market_L30 w_I v0 v1 kv0   hQ   _ (0 : Int32) (0 : Int32) (0 : Int32) Z I99 L w_I99 bd_Z q_I99 cp_Z   (by omega)  (by omega)⟩
    · skip
      first | (have t118 : r111.toInt = (0) := (i_eq rfl (show (0 : Int32).toInt = 0 from rfl)).mp c113) | (have t118 : r111.toInt = (0 : Int32).toInt := (i_eq rfl rfl).mp c113) | skip
      have t119 : (-1 : Int32).toInt = -1 := rfl
      exact hQ (-1 : Int32) Z I99 L w_I99 bd_Z q_I99 cp_Z 
end
section
/-! ===== the law's helpers ===== -/
theorem s_L_step {Z : jZ} {I : jI} {L : jL} (w_I : WD Z I) (v0 : Nat) (v1 v2 : Int32) (v3 : Nat) (kv0 : jk Z v0 11) (hl : jlen Z v3 = 1) {Q : Int32 → jI → jL → Prop} (hQ : ∀ (r : Int32) (L' : jL), Q r I L') : f_L_step v0 v1 v2 v3 Z I L Q := by
  unfold f_L_step
  exact s_X11_step w_I v0 v1 v2 kv0 (fun r => ⟨by rw [hl]; exact vp_in_lit (by decide), fun L8 _ => hQ 0 L8⟩) (hQ 1 L)
theorem s_L_of {Z : jZ} {I : jI} {L : jL} (w_I : WD Z I) (v0 : Nat) (v1 v2 : Int32) (v3 : Nat) (kv0 : jk Z v0 11) (hl : jlen Z v3 = 1) {Q : Int32 → jI → jL → Prop} (hQ : ∀ (r : Int32) (L' : jL), Q r I L') : f_L_of v0 v1 v2 v3 Z I L Q := by
  unfold f_L_of
  exact s_X11_of w_I v0 v1 v2 kv0 (fun r => ⟨by rw [hl]; exact vp_in_lit (by decide), fun L8 _ => hQ 0 L8⟩) (hQ 1 L)
theorem s_L_row {Z : jZ} {I : jI} {L : jL} (w_I : WD Z I) (v0 : Nat) (v1 : Int32) (v2 : Nat) (kv0 : jk Z v0 11) (hl : jlen Z v2 = 1) {Q : Int32 → jI → jL → Prop} (hQ : ∀ (r : Int32) (L' : jL), Q r I L') : f_L_row v0 v1 v2 Z I L Q := by
  unfold f_L_row
  exact s_X11_row w_I v0 v1 kv0 (fun r => ⟨by rw [hl]; exact vp_in_lit (by decide), fun L8 _ => hQ 0 L8⟩) (hQ 1 L)
end
section
section JPOP2
variable {G : jG} {cc : ByteArray} {own : String} {Ts : List Cond} {nL : Nat} {ret : Option FieldType} {rm : Room} {Rt : jRt} {pc : Nat} {lv : List (Nat × Value)} {st : List Value} {Z : jZ} {I : jI} {L : jL} {k n : Nat}
theorem j_pop2 (E : jE G cc own Ts nL ret rm Rt) {v : Value} (d : decode cc pc = .ok (.pop2, 1)) (hv : v.category = 2) (kk : jJ G nL (pc + 1) lv (st) Z I L k n) : jJ G nL pc lv (v :: st) Z I L k n := fun H locs ls hl hP hD hS => lv_pop2_2 E.1.1 E.1.2.1 d hv (kk H locs ls hl hP hD hS)
end JPOP2
end
section
/-! ===== the feast: who goes on ===== -/
/-- where one stands -/
def PLC (O G : Nat → Int32) (p : Nat) : Int := if (G p).toInt = 0 then -1 else (O (24 * p + ((G p).toInt - 1).toNat)).toInt
/-- each one's row rises, and ends on the last step -/
def PTH (st : Int) (O M : Nat → Int32) (n : Int) : Prop := ∀ p : Nat, (p : Int) < n → 0 < (M p).toInt → (O (24 * p + ((M p).toInt - 1).toNat)).toInt = st - 1 ∧ ∀ k : Nat, (k : Int) + 1 < (M p).toInt → (O (24 * p + k)).toInt < (O (24 * p + (k + 1))).toInt
/-- how many aren't up yet -/
def CNT : Nat → (Nat → Int32) → (Nat → Int32) → Int
  | 0, _, _ => 0
  | n + 1, G, M => CNT n G M + (if (G n).toInt < (M n).toInt then 1 else 0)
def SGo (G : Nat → Int32) : Int := (G 0).toInt + (G 1).toInt + (G 2).toInt + (G 3).toInt + (G 4).toInt + (G 5).toInt
theorem CNT_congr {G M G' M' : Nat → Int32} : ∀ {n : Nat}, (∀ q, q < n → G' q = G q) → (∀ q, q < n → M' q = M q) → CNT n G' M' = CNT n G M := by
  intro n
  induction n with
  | zero => intro _ _; rfl
  | succ n ih =>
    intro h1 h2
    show CNT n G' M' + _ = CNT n G M + _
    rw [ih (fun q hq => h1 q (by omega)) (fun q hq => h2 q (by omega)), h1 n (by omega), h2 n (by omega)]
theorem CNT_pos {G M : Nat → Int32} : ∀ {n : Nat}, 0 < CNT n G M → ∃ q, q < n ∧ (G q).toInt < (M q).toInt := by
  intro n
  induction n with
  | zero => intro h; exact absurd h (by show ¬ (0 : Int) < 0; omega)
  | succ n ih =>
    intro h
    by_cases hn : (G n).toInt < (M n).toInt
    · exact ⟨n, by omega, hn⟩
    · have h1 : 0 < CNT n G M + (if (G n).toInt < (M n).toInt then 1 else 0) := h
      rw [if_neg hn] at h1
      obtain ⟨q, h2, h3⟩ := ih (by omega)
      exact ⟨q, by omega, h3⟩
theorem CNT_rng {G M : Nat → Int32} : ∀ {n : Nat}, 0 ≤ CNT n G M ∧ CNT n G M ≤ (n : Int) := by
  intro n
  induction n with
  | zero => exact ⟨Int.le_refl _, Int.le_refl _⟩
  | succ n ih =>
    show 0 ≤ CNT n G M + (if (G n).toInt < (M n).toInt then 1 else 0) ∧ CNT n G M + (if (G n).toInt < (M n).toInt then 1 else 0) ≤ ((n + 1 : Nat) : Int)
    by_cases hn : (G n).toInt < (M n).toInt
    · rw [if_pos hn]; omega
    · rw [if_neg hn]; omega
theorem CNT_up {G G' M : Nat → Int32} {p : Nat} (ho : ∀ q, q ≠ p → G' q = G q) (hl : (G p).toInt < (M p).toInt) (hv : (G' p).toInt = (G p).toInt + 1) : ∀ {n : Nat}, p < n → CNT n G' M = CNT n G M - (if (G' p).toInt = (M p).toInt then 1 else 0) := by
  intro n
  induction n with
  | zero => intro h; omega
  | succ n ih =>
    intro h
    show CNT n G' M + (if (G' n).toInt < (M n).toInt then 1 else 0) = CNT n G M + (if (G n).toInt < (M n).toInt then 1 else 0) - _
    by_cases hp : p = n
    · subst hp
      rw [CNT_congr (G := G) (M := M) (G' := G') (M' := M) (fun q hq => ho q (by omega)) (fun _ _ => rfl), if_pos hl]
      by_cases e : (G' p).toInt = (M p).toInt
      · rw [if_pos e, if_neg (by omega)]; omega
      · rw [if_neg e, if_pos (by omega)]; omega
    · rw [ih (by omega), ho n (fun q => hp q.symm)]
      omega
theorem SGo_up {G G' : Nat → Int32} {p : Nat} (hp : p < 6) (ho : ∀ q, q ≠ p → G' q = G q) (hv : (G' p).toInt = (G p).toInt + 1) : SGo G' = SGo G + 1 := by
  unfold SGo
  rcases (show p = 0 ∨ p = 1 ∨ p = 2 ∨ p = 3 ∨ p = 4 ∨ p = 5 by omega) with rfl | rfl | rfl | rfl | rfl | rfl
  · rw [ho 1 (by decide), ho 2 (by decide), ho 3 (by decide), ho 4 (by decide), ho 5 (by decide)]; omega
  · rw [ho 0 (by decide), ho 2 (by decide), ho 3 (by decide), ho 4 (by decide), ho 5 (by decide)]; omega
  · rw [ho 0 (by decide), ho 1 (by decide), ho 3 (by decide), ho 4 (by decide), ho 5 (by decide)]; omega
  · rw [ho 0 (by decide), ho 1 (by decide), ho 2 (by decide), ho 4 (by decide), ho 5 (by decide)]; omega
  · rw [ho 0 (by decide), ho 1 (by decide), ho 2 (by decide), ho 3 (by decide), ho 5 (by decide)]; omega
  · rw [ho 0 (by decide), ho 1 (by decide), ho 2 (by decide), ho 3 (by decide), ho 4 (by decide)]; omega
theorem SGo_le {G : Nat → Int32} (h : ∀ q, 0 ≤ (G q).toInt ∧ (G q).toInt ≤ 24) : SGo G ≤ 144 := by
  have := h 0; have := h 1; have := h 2; have := h 3; have := h 4; have := h 5
  unfold SGo; omega
theorem PTH_le {st n : Int} {O M : Nat → Int32} (h : PTH st O M n) {p : Nat} (hp : (p : Int) < n) : ∀ (d k : Nat), (k : Int) + 1 + (d : Int) = (M p).toInt → (O (24 * p + k)).toInt ≤ st - 1 := by
  intro d
  induction d with
  | zero =>
    intro k hk
    have h1 := (h p hp (by omega)).1
    rw [show ((M p).toInt - 1).toNat = k by omega] at h1
    omega
  | succ d ih =>
    intro k hk
    have h1 := (h p hp (by omega)).2 k (by omega)
    have h2 := ih (k + 1) (by omega)
    omega
/-- what holds all along -/
def BSt (st n : Int) (O M G : Nat → Int32) (lf : Int) : Prop := lf = CNT n.toNat G M ∧ PTH st O M n ∧ ∀ p : Nat, (p : Int) < n → (G p).toInt ≤ (M p).toInt
/-- those that aren't worked off yet can go on -/
def FSt (n : Int) (M G P : Nat → Int32) (s q : Int) : Prop := ∀ p : Nat, (p : Int) < n → -1 ≤ (P p).toInt → ((P p).toInt < s ∨ ((P p).toInt = s ∧ q ≤ (p : Int))) → (G p).toInt < (M p).toInt
/-- places at the minute's begin -/
def PTn (n : Int) (O M G P : Nat → Int32) : Prop := ∀ p : Nat, (p : Int) < n → (P p).toInt = if (G p).toInt < (M p).toInt then PLC O G p else -2
/-- nobody has moved yet -/
def NPr (n : Int) (O M G P : Nat → Int32) (s q lf : Int) : Prop := PTn n O M G P ∧ (∀ p : Nat, (p : Int) < n → (P p).toInt ≤ s ∧ ((p : Int) < q → (P p).toInt < s)) ∧ 0 < lf
def MIn (N n : Int) (O M G P : Nat → Int32) (s q lf : Int) : Prop := FSt n M G P s q ∧ (144 - SGo G < N ∨ NPr n O M G P s q lf)
theorem PLC_rng {st n : Int} {O M G : Nat → Int32} (h : PTH st O M n) (hst : 1 ≤ st) {p : Nat} (hp : (p : Int) < n) (hO : ∀ q, 0 ≤ (O q).toInt) (hG : 0 ≤ (G p).toInt) (hl : (G p).toInt ≤ (M p).toInt) : -1 ≤ PLC O G p ∧ PLC O G p ≤ st - 1 := by
  unfold PLC
  by_cases h0 : (G p).toInt = 0
  · rw [if_pos h0]; omega
  · rw [if_neg h0]
    have h1 := PTH_le h hp ((M p).toInt - (G p).toInt).toNat ((G p).toInt - 1).toNat (by omega)
    have h2 := hO (24 * p + ((G p).toInt - 1).toNat)
    omega
theorem MIn_start {N st n lf : Int} {O M G P : Nat → Int32} (hb : BSt st n O M G lf) (hst : 1 ≤ st) (hO : ∀ q, 0 ≤ (O q).toInt) (hG : ∀ q, 0 ≤ (G q).toInt) (hP : PTn n O M G P) (hl : 0 < lf) : MIn N n O M G P (st - 1) 0 lf := by
  refine ⟨fun p hp h1 _ => ?_, Or.inr ⟨hP, fun p hp => ?_, hl⟩⟩
  · have h2 := hP p hp
    by_cases h3 : (G p).toInt < (M p).toInt
    · exact h3
    · rw [if_neg h3] at h2; omega
  · have h2 := hP p hp
    by_cases h3 : (G p).toInt < (M p).toInt
    · rw [if_pos h3] at h2
      have h4 := PLC_rng hb.2.1 hst hp hO (hG p) (hb.2.2 p hp)
      omega
    · rw [if_neg h3] at h2; omega
theorem MIn_skip {N n s q q' lf : Int} {O M G P : Nat → Int32} {p : Nat} (h : MIn N n O M G P s q lf) (hq : (p : Int) = q) (hq' : q' = q + 1) (hn : ¬ (P p).toInt = s) : MIn N n O M G P s q' lf := by
  refine ⟨fun p' hp h1 h2 => h.1 p' hp h1 (by omega), ?_⟩
  rcases h.2 with h2 | ⟨h2, h3, h4⟩
  · exact Or.inl h2
  · refine Or.inr ⟨h2, fun p' hp => ?_, h4⟩
    have h5 := h3 p' hp
    refine ⟨h5.1, fun h6 => ?_⟩
    by_cases e : p' = p
    · subst e; omega
    · exact h5.2 (by omega)
theorem MIn_wait {N n s q q' lf : Int} {O M G P : Nat → Int32} (h : MIn N n O M G P s q lf) (hq' : q' = q + 1) (hg : 144 - SGo G < N) : MIn N n O M G P s q' lf :=
  ⟨fun p' hp h1 h2 => h.1 p' hp h1 (by omega), Or.inl hg⟩
theorem MIn_move {N n s q q' lf lf' : Int} {O M G G' P : Nat → Int32} {p : Nat} (h : MIn N n O M G P s q lf) (hN : 144 - SGo G ≤ N) (hp : (p : Int) = q) (hp6 : p < 6) (hq' : q' = q + 1) (he : (P p).toInt = s) (ho : ∀ i, i ≠ p → G' i = G i) (hv : (G' p).toInt = (G p).toInt + 1) : MIn N n O M G' P s q' lf' := by
  refine ⟨fun p' hp' h1 h2 => ?_, Or.inl ?_⟩
  · by_cases e : p' = p
    · subst e; omega
    · rw [ho p' e]; exact h.1 p' hp' h1 (by omega)
  · have := SGo_up hp6 ho hv
    omega
theorem MIn_next {N n s s' q lf : Int} {O M G P : Nat → Int32} (h : MIn N n O M G P s q lf) (hq : n ≤ q) (hs : s' = s - 1) : MIn N n O M G P s' 0 lf := by
  refine ⟨fun p' hp h1 h2 => h.1 p' hp h1 (by omega), ?_⟩
  rcases h.2 with h2 | ⟨h2, h3, h4⟩
  · exact Or.inl h2
  · refine Or.inr ⟨h2, fun p' hp => ?_, h4⟩
    have h5 := (h3 p' hp).2 (by omega)
    exact ⟨by omega, fun h6 => by omega⟩
theorem MIn_end {N st n s lf : Int} {O M G P : Nat → Int32} (h : MIn N n O M G P s 0 lf) (hb : BSt st n O M G lf) (hst : 1 ≤ st) (hO : ∀ q, 0 ≤ (O q).toInt) (hG : ∀ q, 0 ≤ (G q).toInt) (hs : s < -1) : 144 - SGo G < N := by
  rcases h.2 with h2 | ⟨h2, h3, h4⟩
  · exact h2
  · rw [hb.1] at h4
    obtain ⟨p, h5, h6⟩ := CNT_pos h4
    have h7 := h2 p (by omega)
    rw [if_pos h6] at h7
    have h8 := PLC_rng hb.2.1 hst (p := p) (by omega) hO (hG p) (by omega)
    have h9 := h3 p (by omega)
    omega
/-- one that waits though its next step is free: others have moved -/
theorem MIn_free {N st n s q lf to : Int} {O M G P : Nat → Int32} {p : Nat} (h : MIn N n O M G P s q lf) (hb : BSt st n O M G lf) (hO : ∀ q, 0 ≤ (O q).toInt) (hp : (p : Int) < n) (he : (P p).toInt = s) (hs : -1 ≤ s) (hG : ∀ q, 0 ≤ (G q).toInt)
    (hto : to = (O (24 * p + (G p).toInt.toNat)).toInt) (hlt : to < st - 1) (hon : ∃ p' : Nat, (p' : Int) < n ∧ 0 < (M p').toInt ∧ PLC O G p' = to) : 144 - SGo G < N := by
  rcases h.2 with h2 | ⟨h2, h3, h4⟩
  · exact h2
  · exfalso
    obtain ⟨p', g1, g2, g3⟩ := hon
    have h5 := h2 p hp
    have h5' := h2 p' g1
    have h6 := hG p
    have h6' := hG p'
    have h7 : (G p).toInt < (M p).toInt := by
      by_cases h8 : (G p).toInt < (M p).toInt
      · exact h8
      · rw [if_neg h8] at h5; omega
    rw [if_pos h7] at h5
    have hgt : s < to := by
      unfold PLC at h5
      by_cases h0 : (G p).toInt = 0
      · rw [if_pos h0] at h5
        have := hO (24 * p + (G p).toInt.toNat)
        omega
      · rw [if_neg h0] at h5
        have h9 := (hb.2.1 p hp (by omega)).2 ((G p).toInt - 1).toNat (by omega)
        rw [show ((G p).toInt - 1).toNat + 1 = (G p).toInt.toNat by omega] at h9
        omega
    by_cases h8 : (G p').toInt < (M p').toInt
    · rw [if_pos h8] at h5'
      have := (h3 p' g1).1
      omega
    · have h9 := hb.2.2 p' g1
      have h10 := (hb.2.1 p' g1 g2).1
      unfold PLC at g3
      rw [if_neg (by omega), show (G p').toInt = (M p').toInt by omega] at g3
      omega
theorem BSt_move {st n lf lf' : Int} {O M G G' : Nat → Int32} {p : Nat} (hb : BSt st n O M G lf) (hp : (p : Int) < n) (ho : ∀ i, i ≠ p → G' i = G i) (hl : (G p).toInt < (M p).toInt) (hv : (G' p).toInt = (G p).toInt + 1) (hlf : ((G' p).toInt = (M p).toInt ∧ lf' = lf - 1) ∨ (¬ (G' p).toInt = (M p).toInt ∧ lf' = lf)) : BSt st n O M G' lf' := by
  refine ⟨?_, hb.2.1, fun p' hp' => ?_⟩
  · rw [CNT_up ho hl hv (n := n.toNat) (by omega), ← hb.1]
    rcases hlf with h | h
    · rw [if_pos h.1]; exact h.2
    · rw [if_neg h.1]; omega
  · by_cases e : p' = p
    · subst e; omega
    · rw [ho p' e]; exact hb.2.2 p' hp'
theorem PTn_step {O M G P P' : Nat → Int32} {q q' : Int} {p : Nat} (h : ∀ i : Nat, (i : Int) < q → (P i).toInt = if (G i).toInt < (M i).toInt then PLC O G i else -2) (hp : (p : Int) = q) (hq : q' = q + 1) (ho : ∀ i, i ≠ p → P' i = P i) (hv : ((M p).toInt ≤ (G p).toInt ∧ (P' p).toInt = -2) ∨ ((G p).toInt < (M p).toInt ∧ (P' p).toInt = PLC O G p)) : ∀ i : Nat, (i : Int) < q' → (P' i).toInt = if (G i).toInt < (M i).toInt then PLC O G i else -2 := by
  intro i hi
  by_cases e : i = p
  · subst e
    rcases hv with h1 | h1
    · rw [if_neg (by omega)]; exact h1.2
    · rw [if_pos h1.1]; exact h1.2
  · rw [ho i e]; exact h i (by omega)
/-- while the rows are laid: those before p are ready -/
def BS0 (st : Int) (O M G : Nat → Int32) (n lf : Int) : Prop := lf = CNT n.toNat G M ∧ PTH st O M n ∧ ∀ p : Nat, (p : Int) < n → (G p).toInt = 0
theorem BS0_out {st n n' lf : Int} {O M G : Nat → Int32} (h : BS0 st O M G n lf) (hn : n = n') (hM : ∀ q, 0 ≤ (M q).toInt) : BSt st n' O M G lf := by
  subst hn
  exact ⟨h.1, h.2.1, fun p hp => by have := h.2.2 p hp; have := hM p; omega⟩
theorem BS0_keep {st n lf : Int} {O M G O' M' G' : Nat → Int32} (h : BS0 st O M G n lf) (h0 : 0 ≤ n) (hO : ∀ q : Nat, (q : Int) < 24 * n → O' q = O q) (hM : ∀ q : Nat, (q : Int) < n → M' q = M q) (hG : ∀ q : Nat, (q : Int) < n → G' q = G q) (hm : ∀ q, 0 ≤ (M q).toInt ∧ (M q).toInt ≤ 24) : BS0 st O' M' G' n lf := by
  refine ⟨?_, fun p hp hp0 => ?_, fun p hp => by rw [hG p hp]; exact h.2.2 p hp⟩
  · rw [CNT_congr (G := G) (M := M) (fun q hq => hG q (by omega)) (fun q hq => hM q (by omega))]; exact h.1
  · rw [hM p hp] at hp0 ⊢
    have h1 := h.2.1 p hp hp0
    have h2 := hm p
    refine ⟨by rw [hO _ (by omega)]; exact h1.1, fun k hk => ?_⟩
    rw [hO _ (by omega), hO _ (by omega)]
    exact h1.2 k hk
theorem BS0_next {st n n' lf lf' : Int} {O M G R : Nat → Int32} {p : Nat} (h : BS0 st O M G n lf) (hp : (p : Int) = n) (hn : n' = n + 1) (hG : (G p).toInt = 0) (hM : 0 ≤ (M p).toInt ∧ (M p).toInt ≤ 24) (hR : (M p).toInt = 0 ∨ CRP R (M p).toInt (st - 1)) (hO : ∀ k : Nat, (k : Int) < (M p).toInt → O (24 * p + k) = R k)
    (hlf : (0 < (M p).toInt ∧ lf' = lf + 1) ∨ (¬ 0 < (M p).toInt ∧ lf' = lf)) : BS0 st O M G n' lf' := by
  refine ⟨?_, fun p' hp' h0 => ?_, fun p' hp' => ?_⟩
  · rw [hn, show (n + 1).toNat = p + 1 by omega]
    show lf' = CNT p G M + _
    rw [show p = n.toNat by omega, ← h.1, show n.toNat = p by omega, hG]
    rcases hlf with h1 | h1
    · rw [if_pos h1.1]; exact h1.2
    · rw [if_neg h1.1]; omega
  · by_cases e : p' = p
    · subst e
      rcases hR with h1 | h1
      · omega
      · refine ⟨?_, fun k hk => ?_⟩
        · rw [hO _ (by omega)]; exact h1.2.1 h0
        · rw [hO _ (by omega), hO _ (by omega)]
          exact (h1.1 (k + 1) (by omega)).2.2 k (by omega)
    · exact h.2.1 p' (by omega) h0
  · by_cases e : p' = p
    · subst e; exact hG
    · exact h.2.2 p' (by omega)
end
section
set_option maxHeartbeats 4000000 in
set_option maxRecDepth 100000 in
theorem s9_X12_placeOf {Z : jZ} {I : jI} {L : jL} (w_I : WD Z I) (v0 : Nat) (v1 : Int32) (kv0 : jk Z v0 12) (uO : Nat) (huO : jr Z v0 55 = some uO) (uG : Nat) (huG : jr Z v0 57 = some uG) (p0 : 0 ≤ v1.toInt ∧ v1.toInt ≤ 5) {Q : Int32 → jI → jL → Prop} (hQ : ∀ (r : Int32), (r.toInt = PLC (I uO) (I uG) v1.toNatClampNeg ∧ -1 ≤ r.toInt ∧ r.toInt ≤ 23) → Q r I L) : f_X12_placeOf v0 v1 Z I L Q := by
  unfold f_X12_placeOf
  have rv1 := i_rng v1
  have luO : jlen Z uO = 144 := by obtain ⟨b9, e9, -, l9⟩ := sh_f w_I.1 kv0 (j := 55) (k := 14) (m := 144) rfl; cases huO.symm.trans e9; exact l9
  have kuO : jk Z uO 14 := by obtain ⟨b9, e9, k9, -⟩ := sh_f w_I.1 kv0 (j := 55) (k := 14) (m := 144) rfl; cases huO.symm.trans e9; exact k9
  have luG : jlen Z uG = 6 := by obtain ⟨b9, e9, -, l9⟩ := sh_f w_I.1 kv0 (j := 57) (k := 14) (m := 6) rfl; cases huG.symm.trans e9; exact l9
  have kuG : jk Z uG 14 := by obtain ⟨b9, e9, k9, -⟩ := sh_f w_I.1 kv0 (j := 57) (k := 14) (m := 6) rfl; cases huG.symm.trans e9; exact k9
  intro b1 eb1
  obtain rfl : uG = b1 := Option.some.inj (huG.symm.trans eb1)
  have o2 : vp_in v1 6 := vi_of rfl (by omega) (by omega)
  refine ⟨o2, ?_⟩
  have t3 : 0 ≤ (I uG v1.toNatClampNeg).toInt ∧ (I uG v1.toNatClampNeg).toInt ≤ 24 := w_I.arr 12 57 kv0 huG kuG rfl rfl _
  refine ⟨fun c4 => ?_, fun c4 => ?_⟩
  · skip
    first | (have t5 : ¬ ((I uG v1.toNatClampNeg).toInt = (0)) := (not_congr (i_eq rfl (show (0 : Int32).toInt = 0 from rfl))).mp c4) | (have t5 : ¬ ((I uG v1.toNatClampNeg).toInt = (0 : Int32).toInt) := (not_congr (i_eq rfl rfl)).mp c4) | skip
    intro b6 eb6
    obtain rfl : uO = b6 := Option.some.inj (huO.symm.trans eb6)
    intro b7 eb7
    obtain rfl : uG = b7 := Option.some.inj (huG.symm.trans eb7)
    have o8 : vp_in v1 6 := vi_of rfl (by omega) (by omega)
    refine ⟨o8, ?_⟩
    have t9 : 0 ≤ (I uG v1.toNatClampNeg).toInt ∧ (I uG v1.toNatClampNeg).toInt ≤ 24 := w_I.arr 12 57 kv0 huG kuG rfl rfl _
    have o10 : vp_in ((((24 : Int32) * v1) + (I uG v1.toNatClampNeg)) - (1 : Int32)) 144 := vi_of (i_sub (i_add (i_mul (show (24 : Int32).toInt = 24 from rfl) rfl (by omega) (by omega)) rfl (by omega) (by omega)) (show (1 : Int32).toInt = 1 from rfl) (by omega) (by omega)) (by omega) (by omega)
    refine ⟨o10, ?_⟩
    have t11 : 0 ≤ (I uO ((((24 : Int32) * v1) + (I uG v1.toNatClampNeg)) - (1 : Int32)).toNatClampNeg).toInt ∧ (I uO ((((24 : Int32) * v1) + (I uG v1.toNatClampNeg)) - (1 : Int32)).toNatClampNeg).toInt ≤ 23 := w_I.arr 12 55 kv0 huO kuO rfl rfl _
    exact hQ (I uO ((((24 : Int32) * v1) + (I uG v1.toNatClampNeg)) - (1 : Int32)).toNatClampNeg) (by first | (unfold PLC; rw [if_pos (by omega)]; exact ⟨rfl, by omega, by omega⟩) | (have n1 := i_nat (x := v1) rfl (by omega); have n2 := i_nat (x := ((((24 : Int32) * v1) + (I uG v1.toNatClampNeg)) - (1 : Int32))) (i_sub (i_add (i_mul (show (24 : Int32).toInt = 24 from rfl) rfl (by omega) (by omega)) rfl (by omega) (by omega)) (show (1 : Int32).toInt = 1 from rfl) (by omega) (by omega)) (by omega); have e9 : ((((24 : Int32) * v1) + (I uG v1.toNatClampNeg)) - (1 : Int32)).toNatClampNeg = 24 * v1.toNatClampNeg + ((I uG v1.toNatClampNeg).toInt - 1).toNat := (by omega); unfold PLC; rw [if_neg (by omega), ← e9]; exact ⟨rfl, by omega, by omega⟩))
  · skip
    first | (have t12 : (I uG v1.toNatClampNeg).toInt = (0) := (i_eq rfl (show (0 : Int32).toInt = 0 from rfl)).mp c4) | (have t12 : (I uG v1.toNatClampNeg).toInt = (0 : Int32).toInt := (i_eq rfl rfl).mp c4) | skip
    have t13 : (-1 : Int32).toInt = -1 := rfl
    exact hQ (-1 : Int32) (by first | (unfold PLC; rw [if_pos (by omega)]; exact ⟨rfl, by omega, by omega⟩) | (have n1 := i_nat (x := v1) rfl (by omega); have n2 := i_nat (x := ((((24 : Int32) * v1) + (I uG v1.toNatClampNeg)) - (1 : Int32))) (i_sub (i_add (i_mul (show (24 : Int32).toInt = 24 from rfl) rfl (by omega) (by omega)) rfl (by omega) (by omega)) (show (1 : Int32).toInt = 1 from rfl) (by omega) (by omega)) (by omega); have e9 : ((((24 : Int32) * v1) + (I uG v1.toNatClampNeg)) - (1 : Int32)).toNatClampNeg = 24 * v1.toNatClampNeg + ((I uG v1.toNatClampNeg).toInt - 1).toNat := (by omega); unfold PLC; rw [if_neg (by omega), ← e9]; exact ⟨rfl, by omega, by omega⟩))
set_option maxHeartbeats 4000000 in
set_option maxRecDepth 100000 in
theorem l9_X12_onStep_L4 {Z : jZ} {I : jI} {L : jL} {Q : Int32 → jI → jL → Prop} (w_I : WD Z I) (v0 : Nat) (v1 : Int32) (kv0 : jk Z v0 12) (uO : Nat) (huO : jr Z v0 55 = some uO) (uM : Nat) (huM : jr Z v0 56 = some uM) (uG : Nat) (huG : jr Z v0 57 = some uG) (hQ : ∀ (r : Int32), (r.toInt = 0 ∨ ∃ p : Nat, (p : Int) < (I v0 8).toInt ∧ 0 < (I uM p).toInt ∧ PLC (I uO) (I uG) p = v1.toInt) → Q r I L) : ∀ (n : Nat) (v2 : Int32) (v3 : Int32) ,   ((0 ≤ v3.toInt ∧ v3.toInt ≤ 6 ∧ 0 ≤ v2.toInt ∧ v2.toInt ≤ v3.toInt) ∧ (v2.toInt = 0 ∨ ∃ p : Nat, (p : Int) < v3.toInt ∧ (p : Int) < (I v0 8).toInt ∧ 0 < (I uM p).toInt ∧ PLC (I uO) (I uG) p = v1.toInt)) → 6 - v3.toInt < (n : Int) → f_X12_onStep_L4  Z Q n v0 v1 v2 v3 I L := by
  intro n
  induction n with
  | zero =>
    intro v2 v3   li  me
    exfalso
    omega
  | succ n ih =>
    intro v2 v3   li  me
    unfold f_X12_onStep_L4
    have rv2 := i_rng v2
    have rv3 := i_rng v3
    have rv1 := i_rng v1
    obtain ⟨li0, li1⟩ := li
    have luO : jlen Z uO = 144 := by obtain ⟨b9, e9, -, l9⟩ := sh_f w_I.1 kv0 (j := 55) (k := 14) (m := 144) rfl; cases huO.symm.trans e9; exact l9
    have kuO : jk Z uO 14 := by obtain ⟨b9, e9, k9, -⟩ := sh_f w_I.1 kv0 (j := 55) (k := 14) (m := 144) rfl; cases huO.symm.trans e9; exact k9
    have luM : jlen Z uM = 6 := by obtain ⟨b9, e9, -, l9⟩ := sh_f w_I.1 kv0 (j := 56) (k := 14) (m := 6) rfl; cases huM.symm.trans e9; exact l9
    have kuM : jk Z uM 14 := by obtain ⟨b9, e9, k9, -⟩ := sh_f w_I.1 kv0 (j := 56) (k := 14) (m := 6) rfl; cases huM.symm.trans e9; exact k9
    have luG : jlen Z uG = 6 := by obtain ⟨b9, e9, -, l9⟩ := sh_f w_I.1 kv0 (j := 57) (k := 14) (m := 6) rfl; cases huG.symm.trans e9; exact l9
    have kuG : jk Z uG 14 := by obtain ⟨b9, e9, k9, -⟩ := sh_f w_I.1 kv0 (j := 57) (k := 14) (m := 6) rfl; cases huG.symm.trans e9; exact k9
    have t2 : 0 ≤ (I v0 8).toInt ∧ (I v0 8).toInt ≤ 6 := w_I.fld 12 8 kv0 (by decide)
    refine ⟨fun c3 => ?_, fun c3 => ?_⟩
    · skip
      first | (have t4 : (I v0 8).toInt ≤ v3.toInt := (i_le rfl rfl).mp c3) | (have t4 : (I v0 8).toInt ≤ v3.toInt := (i_le rfl rfl).mp c3) | skip
      exact hQ v2 (by rcases li1 with h | ⟨p9, h1, h2, h3, h4⟩; exact Or.inl h; exact Or.inr ⟨p9, h2, h3, h4⟩)
    · skip
      first | (have t5 : ¬ ((I v0 8).toInt ≤ v3.toInt) := (not_congr (i_le rfl rfl)).mp c3) | (have t5 : ¬ ((I v0 8).toInt ≤ v3.toInt) := (not_congr (i_le rfl rfl)).mp c3) | skip
      intro b6 eb6
      obtain rfl : uM = b6 := Option.some.inj (huM.symm.trans eb6)
      have o7 : vp_in v3 6 := vi_of rfl (by omega) (by omega)
      refine ⟨o7, ?_⟩
      have t8 : 0 ≤ (I uM v3.toNatClampNeg).toInt ∧ (I uM v3.toNatClampNeg).toInt ≤ 24 := w_I.arr 12 56 kv0 huM kuM rfl rfl _
      refine ⟨fun c9 => ?_, fun c9 => ?_⟩
      · skip
        first | (have t10 : (I uM v3.toNatClampNeg).toInt ≤ (0) := (i_le rfl (show (0 : Int32).toInt = 0 from rfl)).mp c9) | (have t10 : (I uM v3.toNatClampNeg).toInt ≤ (0 : Int32).toInt := (i_le rfl rfl).mp c9) | skip
        unfold f_X12_onStep_b35
        unfold f_X12_onStep_b36
        intro x11 ex11
        have rx11 := i_rng x11
        first | (have tx11 : x11.toInt = (v2.toInt + (0)) := by (rw [ex11]; exact (i_add rfl (show (0 : Int32).toInt = 0 from rfl) (by omega) (by omega)))) | (have tx11 : x11.toInt = (v2 + (0 : Int32)).toInt := by rw [ex11])
        intro x12 ex12
        have rx12 := i_rng x12
        first | (have tx12 : x12.toInt = v3.toInt + (1) := by (rw [ex12]; exact (i_add rfl (show (1 : Int32).toInt = 1 from rfl) (by omega) (by omega)))) | skip
        exact ih x11 x12   (by first | exact ⟨by omega, Or.inl (by omega)⟩ | (have nv3 := i_nat (x := v3) rfl (by omega); exact ⟨by omega, Or.inr ⟨v3.toNatClampNeg, by omega, by omega, by omega, by omega⟩⟩) | (refine ⟨by omega, ?_⟩; rcases li1 with h | ⟨p9, h1, h2, h3, h4⟩; exact Or.inl (by omega); exact Or.inr ⟨p9, by omega, h2, h3, h4⟩))  (by omega)
      · skip
        first | (have t13 : ¬ ((I uM v3.toNatClampNeg).toInt ≤ (0)) := (not_congr (i_le rfl (show (0 : Int32).toInt = 0 from rfl))).mp c9) | (have t13 : ¬ ((I uM v3.toNatClampNeg).toInt ≤ (0 : Int32).toInt) := (not_congr (i_le rfl rfl)).mp c9) | skip
        refine s9_X12_placeOf w_I v0 v3 kv0 uO huO uG huG (by omega) (fun r14 p15 => ?_)
        have rr14 := i_rng r14
        refine ⟨fun c16 => ?_, fun c16 => ?_⟩
        · skip
          first | (have t17 : ¬ (r14.toInt = v1.toInt) := (not_congr (i_eq rfl rfl)).mp c16) | (have t17 : ¬ (r14.toInt = v1.toInt) := (not_congr (i_eq rfl rfl)).mp c16) | skip
          unfold f_X12_onStep_b35
          unfold f_X12_onStep_b36
          intro x18 ex18
          have rx18 := i_rng x18
          first | (have tx18 : x18.toInt = (v2.toInt + (0)) := by (rw [ex18]; exact (i_add rfl (show (0 : Int32).toInt = 0 from rfl) (by omega) (by omega)))) | (have tx18 : x18.toInt = (v2 + (0 : Int32)).toInt := by rw [ex18])
          intro x19 ex19
          have rx19 := i_rng x19
          first | (have tx19 : x19.toInt = v3.toInt + (1) := by (rw [ex19]; exact (i_add rfl (show (1 : Int32).toInt = 1 from rfl) (by omega) (by omega)))) | skip
          exact ih x18 x19   (by first | exact ⟨by omega, Or.inl (by omega)⟩ | (have nv3 := i_nat (x := v3) rfl (by omega); exact ⟨by omega, Or.inr ⟨v3.toNatClampNeg, by omega, by omega, by omega, by omega⟩⟩) | (refine ⟨by omega, ?_⟩; rcases li1 with h | ⟨p9, h1, h2, h3, h4⟩; exact Or.inl (by omega); exact Or.inr ⟨p9, by omega, h2, h3, h4⟩))  (by omega)
        · skip
          first | (have t20 : r14.toInt = v1.toInt := (i_eq rfl rfl).mp c16) | (have t20 : r14.toInt = v1.toInt := (i_eq rfl rfl).mp c16) | skip
          unfold f_X12_onStep_b36
          intro x21 ex21
          have rx21 := i_rng x21
          first | (have tx21 : x21.toInt = (v2.toInt + (1)) := by (rw [ex21]; exact (i_add rfl (show (1 : Int32).toInt = 1 from rfl) (by omega) (by omega)))) | (have tx21 : x21.toInt = (v2 + (1 : Int32)).toInt := by rw [ex21])
          intro x22 ex22
          have rx22 := i_rng x22
          first | (have tx22 : x22.toInt = v3.toInt + (1) := by (rw [ex22]; exact (i_add rfl (show (1 : Int32).toInt = 1 from rfl) (by omega) (by omega)))) | skip
          exact ih x21 x22   (by first | exact ⟨by omega, Or.inl (by omega)⟩ | (have nv3 := i_nat (x := v3) rfl (by omega); exact ⟨by omega, Or.inr ⟨v3.toNatClampNeg, by omega, by omega, by omega, by omega⟩⟩) | (refine ⟨by omega, ?_⟩; rcases li1 with h | ⟨p9, h1, h2, h3, h4⟩; exact Or.inl (by omega); exact Or.inr ⟨p9, by omega, h2, h3, h4⟩))  (by omega)
set_option maxHeartbeats 4000000 in
set_option maxRecDepth 100000 in
theorem s9_X12_onStep {Z : jZ} {I : jI} {L : jL} (w_I : WD Z I) (v0 : Nat) (v1 : Int32) (kv0 : jk Z v0 12) (uO : Nat) (huO : jr Z v0 55 = some uO) (uM : Nat) (huM : jr Z v0 56 = some uM) (uG : Nat) (huG : jr Z v0 57 = some uG) {Q : Int32 → jI → jL → Prop} (hQ : ∀ (r : Int32), (r.toInt = 0 ∨ ∃ p : Nat, (p : Int) < (I v0 8).toInt ∧ 0 < (I uM p).toInt ∧ PLC (I uO) (I uG) p = v1.toInt) → Q r I L) : f_X12_onStep v0 v1 Z I L Q := by
  unfold f_X12_onStep
  have rv1 := i_rng v1
  have luO : jlen Z uO = 144 := by obtain ⟨b9, e9, -, l9⟩ := sh_f w_I.1 kv0 (j := 55) (k := 14) (m := 144) rfl; cases huO.symm.trans e9; exact l9
  have kuO : jk Z uO 14 := by obtain ⟨b9, e9, k9, -⟩ := sh_f w_I.1 kv0 (j := 55) (k := 14) (m := 144) rfl; cases huO.symm.trans e9; exact k9
  have luM : jlen Z uM = 6 := by obtain ⟨b9, e9, -, l9⟩ := sh_f w_I.1 kv0 (j := 56) (k := 14) (m := 6) rfl; cases huM.symm.trans e9; exact l9
  have kuM : jk Z uM 14 := by obtain ⟨b9, e9, k9, -⟩ := sh_f w_I.1 kv0 (j := 56) (k := 14) (m := 6) rfl; cases huM.symm.trans e9; exact k9
  have luG : jlen Z uG = 6 := by obtain ⟨b9, e9, -, l9⟩ := sh_f w_I.1 kv0 (j := 57) (k := 14) (m := 6) rfl; cases huG.symm.trans e9; exact l9
  have kuG : jk Z uG 14 := by obtain ⟨b9, e9, k9, -⟩ := sh_f w_I.1 kv0 (j := 57) (k := 14) (m := 6) rfl; cases huG.symm.trans e9; exact k9
  have t23 : (0 : Int32).toInt = 0 := rfl
  have t24 : (0 : Int32).toInt = 0 := rfl
  exact ⟨(6 - (0 : Int32).toInt).toNat + 1, l9_X12_onStep_L4 w_I v0 v1 kv0 uO huO uM huM uG huG   hQ   _ (0 : Int32) (0 : Int32)   (by first | exact ⟨by omega, Or.inl (by omega)⟩ | (have nv3 := i_nat (x := v3) rfl (by omega); exact ⟨by omega, Or.inr ⟨v3.toNatClampNeg, by omega, by omega, by omega, by omega⟩⟩) | (refine ⟨by omega, ?_⟩; rcases li1 with h | ⟨p9, h1, h2, h3, h4⟩; exact Or.inl (by omega); exact Or.inr ⟨p9, by omega, h2, h3, h4⟩))  (by omega)⟩
end
