def Ws_X12_feast : List (Nat × Nat) := [(12, 21), (12, 22), (12, 24), (12, 25), (12, 26), (12, 27), (12, 31), (12, 32), (12, 33), (12, 34), (12, 37), (12, 38), (12, 40), (12, 41), (12, 42), (12, 43), (12, 44), (12, 55), (12, 56), (12, 57), (12, 58), (12, 59), (12, 60), (12, 61)]
set_option maxHeartbeats 4000000 in
set_option maxRecDepth 100000 in
theorem l_X12_feast_L38 {B : Nat × Nat} {T : Nat} {Z0 : jZ} {I0 : jI} {Q : Int32 → jZ → jI → jL → Prop} (w0 : WD Z0 I0) (v0 : Nat) (v1 : Int32) (kv0 : jk Z0 v0 12) (v2 : Int32) (hQ : ∀ (r : Int32) (Z' : jZ) (I' : jI) (L' : jL), WD Z' I' → BUD B Z' T → FR Ws_X12_feast Z0 I0 Z' I' → CP Z0 Z' → Q r Z' I' L') : ∀ (n : Nat) (v3 : Int32) (v4 : Int32) (v5 : Int32) (Z : jZ) (I : jI) (L : jL), WD Z I → BUD B Z T → FR Ws_X12_feast Z0 I0 Z I → CP Z0 Z →   (0 ≤ v5.toInt ∧ v5.toInt ≤ 6) → 6 - v5.toInt < (n : Int) → f_X12_feast_L38 B  Q n v0 v2 v3 v4 v5 Z I L := by
  intro n
  induction n with
  | zero =>
    intro v3 v4 v5 Z I L w_I bd_Z q_I cp_Z   li  me
    exfalso
    omega
  | succ n ih =>
    intro v3 v4 v5 Z I L w_I bd_Z q_I cp_Z   li  me
    unfold f_X12_feast_L38
    have rv3 := i_rng v3
    have rv4 := i_rng v4
    have rv5 := i_rng v5
    have rv2 := i_rng v2
    have rv1 := i_rng v1
    have kv0_0 := kv0
    have kv0 := (q_I.1 _ _ kv0).1
    have t1 : 0 ≤ (I v0 0).toInt ∧ (I v0 0).toInt ≤ 24 := w_I.fld 12 0 kv0 (by decide)
    have xq_I := q_I.1
    have t3 : 0 ≤ (I v0 8).toInt ∧ (I v0 8).toInt ≤ 6 := w_I.fld 12 8 kv0 (by decide)
    refine ⟨fun c4 => ?_, fun c4 => ?_⟩
    · skip
      first | (have t5 : (I v0 8).toInt ≤ v5.toInt := (i_le rfl rfl).mp c4) | (have t5 : (I v0 8).toInt ≤ v5.toInt := (i_le rfl rfl).mp c4) | skip
      intro I6 eI6
      have t7 : (0 : Int32).toInt = 0 := rfl
      have w_I6 : WD Z I6 := by rw [eI6]; exact WD_putF w_I 12 21 kv0 (by decide) (by decide) (by constructor <;> omega)
      have f_I6 : FR [(12, 21)] Z I Z I6 := by rw [eI6]; exact FR_putF kv0 (by decide) List.mem_cons_self
      have q_I6 : FR Ws_X12_feast Z0 I0 Z I6 := q_I.trans w0.1 w0.2.1 (f_I6.mono (by decide))
      have u8 : (I6 v0 0).toInt = (I v0 0).toInt := by rw [f_I6.2.2.1 v0 12 0 kv0 (by decide) (by decide)]
      have u9 : (I6 v0 8).toInt = (I v0 8).toInt := by rw [f_I6.2.2.1 v0 12 8 kv0 (by decide) (by decide)]
      first | (have u10 : (I6 v0 21).toInt = (0) := by (rw [eI6, show jpI I v0 21 (0 : Int32) v0 21 = (0 : Int32) from jpI_at] <;> exact (show (0 : Int32).toInt = 0 from rfl))) | skip
      refine s_X12_tell w_I6 v0 (v3.toInt64) kv0  (by omega) (fun  I12 L13 w_I12 f_I12 p11 => ?_)
      have q_I12 : FR Ws_X12_feast Z0 I0 Z I12 := q_I6.trans w0.1 w0.2.1 (f_I12.mono (by decide))
      have u14 : (I12 v0 0).toInt = (I6 v0 0).toInt := by rw [f_I12.2.2.1 v0 12 0 kv0 (by decide) (by decide)]
      have u15 : (I12 v0 8).toInt = (I6 v0 8).toInt := by rw [f_I12.2.2.1 v0 12 8 kv0 (by decide) (by decide)]
      refine s_X12_tell w_I12 v0 (v4.toInt64) kv0  (by omega) (fun  I17 L18 w_I17 f_I17 p16 => ?_)
      have q_I17 : FR Ws_X12_feast Z0 I0 Z I17 := q_I12.trans w0.1 w0.2.1 (f_I17.mono (by decide))
      have u19 : (I17 v0 0).toInt = (I12 v0 0).toInt := by rw [f_I17.2.2.1 v0 12 0 kv0 (by decide) (by decide)]
      have u20 : (I17 v0 8).toInt = (I12 v0 8).toInt := by rw [f_I17.2.2.1 v0 12 8 kv0 (by decide) (by decide)]
      refine s_X12_tell w_I17 v0 ((I17 v0 60).toInt64) kv0  (by omega) (fun  I22 L23 w_I22 f_I22 p21 => ?_)
      have q_I22 : FR Ws_X12_feast Z0 I0 Z I22 := q_I17.trans w0.1 w0.2.1 (f_I22.mono (by decide))
      have u24 : (I22 v0 0).toInt = (I17 v0 0).toInt := by rw [f_I22.2.2.1 v0 12 0 kv0 (by decide) (by decide)]
      have u25 : (I22 v0 8).toInt = (I17 v0 8).toInt := by rw [f_I22.2.2.1 v0 12 8 kv0 (by decide) (by decide)]
      have u26 : (I22 v0 60).toInt = (I17 v0 60).toInt := by rw [f_I22.2.2.1 v0 12 60 kv0 (by decide) (by decide)]
      exact hQ v2 Z I22 L23 w_I22 bd_Z q_I22 cp_Z 
    · skip
      first | (have t27 : ¬ ((I v0 8).toInt ≤ v5.toInt) := (not_congr (i_le rfl rfl)).mp c4) | (have t27 : ¬ ((I v0 8).toInt ≤ v5.toInt) := (not_congr (i_le rfl rfl)).mp c4) | skip
      intro b28 eb28
      obtain ⟨x29, ex29, kb28, lb28⟩ := sh_f w_I.1 kv0 (j := 58) (k := 14) (m := 6) rfl
      cases eb28.symm.trans ex29
      have o30 : vp_in v5 6 := vi_of rfl (by omega) (by omega)
      refine ⟨o30, ?_⟩
      refine ⟨fun c31 => ?_, fun c31 => ?_⟩
      · skip
        first | (have t32 : v3.toInt < (I b28 v5.toNatClampNeg).toInt := (i_lt rfl rfl).mp c31) | (have t32 : v3.toInt < (I b28 v5.toNatClampNeg).toInt := (i_lt rfl rfl).mp c31) | skip
        intro b33 eb33
        obtain rfl : b28 = b33 := Option.some.inj (eb28.symm.trans eb33)
        have o34 : vp_in v5 6 := vi_of rfl (by omega) (by omega)
        refine ⟨o34, ?_⟩
        intro x35 ex35
        have rx35 := i_rng x35
        first | (have tx35 : x35.toInt = (I b28 v5.toNatClampNeg).toInt := by (rw [ex35]; exact rfl)) | (have tx35 : x35.toInt = (I b28 v5.toNatClampNeg).toInt := by rw [ex35])
        unfold f_X12_feast_b73
        intro x36 ex36
        have rx36 := i_rng x36
        first | (have tx36 : x36.toInt = v5.toInt + (1) := by (rw [ex36]; exact (i_add rfl (show (1 : Int32).toInt = 1 from rfl) (by omega) (by omega)))) | skip
        exact ih x35 v5 x36 Z I L w_I bd_Z q_I cp_Z   (by omega)  (by omega)
      · skip
        first | (have t37 : ¬ (v3.toInt < (I b28 v5.toNatClampNeg).toInt) := (not_congr (i_lt rfl rfl)).mp c31) | (have t37 : ¬ (v3.toInt < (I b28 v5.toNatClampNeg).toInt) := (not_congr (i_lt rfl rfl)).mp c31) | skip
        unfold f_X12_feast_b73
        intro x38 ex38
        have rx38 := i_rng x38
        first | (have tx38 : x38.toInt = v5.toInt + (1) := by (rw [ex38]; exact (i_add rfl (show (1 : Int32).toInt = 1 from rfl) (by omega) (by omega)))) | skip
        exact ih v3 v4 x38 Z I L w_I bd_Z q_I cp_Z   (by omega)  (by omega)
set_option maxHeartbeats 4000000 in
set_option maxRecDepth 100000 in
theorem s_X12_feast {B : Nat × Nat} {T : Nat} {Z : jZ} {I : jI} {L : jL} (w_I : WD Z I) (bd_Z : BUD B Z T) (v0 : Nat) (v1 : Int32) (kv0 : jk Z v0 12) {Q : Int32 → jZ → jI → jL → Prop} (hQ : ∀ (r : Int32) (Z' : jZ) (I' : jI) (L' : jL), WD Z' I' → BUD B Z' T → FR Ws_X12_feast Z I Z' I' → CP Z Z' → Q r Z' I' L') : f_X12_feast B v0 v1 Z I L Q := by
  unfold f_X12_feast
  have q_I : FR Ws_X12_feast Z I Z I := FR.rf
  have cp_Z : CP Z Z := CP.rf
  have rv1 := i_rng v1
  have t39 : 0 ≤ (I v0 0).toInt ∧ (I v0 0).toInt ≤ 24 := w_I.fld 12 0 kv0 (by decide)
  intro I40 eI40
  have t41 : (0 : Int32).toInt = 0 := rfl
  have w_I40 : WD Z I40 := by rw [eI40]; exact WD_putF w_I 12 22 kv0 (by decide) (by decide) trivial
  have f_I40 : FR [(12, 22)] Z I Z I40 := by rw [eI40]; exact FR_putF kv0 (by decide) List.mem_cons_self
  have q_I40 : FR Ws_X12_feast Z I Z I40 := q_I.trans w_I.1 w_I.2.1 (f_I40.mono (by decide))
  have u42 : (I40 v0 0).toInt = (I v0 0).toInt := by rw [f_I40.2.2.1 v0 12 0 kv0 (by decide) (by decide)]
  first | (have u43 : (I40 v0 22).toInt = (0) := by (rw [eI40, show jpI I v0 22 (0 : Int32) v0 22 = (0 : Int32) from jpI_at] <;> exact (show (0 : Int32).toInt = 0 from rfl))) | skip
  have t45 : 0 ≤ (I40 v0 0).toInt ∧ (I40 v0 0).toInt ≤ 24 := w_I40.fld 12 0 kv0 (by decide)
  refine ⟨fun c46 => ?_, fun c46 => ?_⟩
  · skip
    first | (have t47 : (I40 v0 0).toInt = (0) := (i_eq rfl (show (0 : Int32).toInt = 0 from rfl)).mp c46) | (have t47 : (I40 v0 0).toInt = (0 : Int32).toInt := (i_eq rfl rfl).mp c46) | skip
    have t48 : (-1 : Int32).toInt = -1 := rfl
    exact hQ (-1 : Int32) Z I40 L w_I40 bd_Z q_I40 cp_Z 
  · skip
    first | (have t49 : ¬ ((I40 v0 0).toInt = (0)) := (not_congr (i_eq rfl (show (0 : Int32).toInt = 0 from rfl))).mp c46) | (have t49 : ¬ ((I40 v0 0).toInt = (0 : Int32).toInt) := (not_congr (i_eq rfl rfl)).mp c46) | skip
    have t50 : (1 : Int32).toInt = 1 := rfl
    have t51 : (6 : Int32).toInt = 6 := rfl
    refine s_X12_in w_I40 v1 (1 : Int32) (6 : Int32)    (fun r52 p53 => ?_)
    have rr52 := i_rng r52
    refine ⟨fun c54 => ?_, fun c54 => ?_⟩
    · skip
      first | (have t55 : ¬ (r52.toInt = (0)) := (not_congr (i_eq rfl (show (0 : Int32).toInt = 0 from rfl))).mp c54) | (have t55 : ¬ (r52.toInt = (0 : Int32).toInt) := (not_congr (i_eq rfl rfl)).mp c54) | skip
      obtain ⟨b56, eb56, kb56, lb56⟩ := sh_f w_I40.1 kv0 (j := 55) (k := 14) (m := 144) rfl
      obtain ⟨b57, eb57, kb57, lb57⟩ := sh_f w_I40.1 kv0 (j := 56) (k := 14) (m := 6) rfl
      obtain ⟨b58, eb58, kb58, lb58⟩ := sh_f w_I40.1 kv0 (j := 57) (k := 14) (m := 6) rfl
      obtain ⟨b59, eb59, kb59, lb59⟩ := sh_f w_I40.1 kv0 (j := 61) (k := 14) (m := 6) rfl
      obtain ⟨b60, eb60, kb60, lb60⟩ := sh_f w_I40.1 kv0 (j := 44) (k := 14) (m := 24) rfl
      refine s_X12_runFeast w_I40 bd_Z v0 v1 kv0 b56 eb56 b57 eb57 b58 eb58 b59 eb59 b60 eb60 (by omega) (by omega) (fun r61 Z64 I62 L63 w_I62 bd_Z64 f_I62 c_Z64  => ?_)
      have q_I62 : FR Ws_X12_feast Z I Z64 I62 := q_I40.trans w_I.1 w_I.2.1 (f_I62.mono (by decide))
      have cp_Z64 : CP Z Z64 := cp_Z.trans q_I40.1 c_Z64
      have x_Z64 := f_I62.1
      have k65 := (f_I62.1 _ _ kv0).1
      have k66 := (f_I62.1 _ _ kb56).1
      have l67 := (f_I62.1 _ _ kb56).2.trans lb56
      have k68 := (f_I62.1 _ _ kv0).1
      have e69 := (f_I62.2.1 v0 12 55 kv0 (by decide) (by decide)).trans eb56
      have k70 := (f_I62.1 _ _ kb57).1
      have l71 := (f_I62.1 _ _ kb57).2.trans lb57
      have k72 := (f_I62.1 _ _ kv0).1
      have e73 := (f_I62.2.1 v0 12 56 kv0 (by decide) (by decide)).trans eb57
      have k74 := (f_I62.1 _ _ kb58).1
      have l75 := (f_I62.1 _ _ kb58).2.trans lb58
      have k76 := (f_I62.1 _ _ kv0).1
      have e77 := (f_I62.2.1 v0 12 57 kv0 (by decide) (by decide)).trans eb58
      have k78 := (f_I62.1 _ _ kb59).1
      have l79 := (f_I62.1 _ _ kb59).2.trans lb59
      have k80 := (f_I62.1 _ _ kv0).1
      have e81 := (f_I62.2.1 v0 12 61 kv0 (by decide) (by decide)).trans eb59
      have k82 := (f_I62.1 _ _ kb60).1
      have l83 := (f_I62.1 _ _ kb60).2.trans lb60
      have k84 := (f_I62.1 _ _ kv0).1
      have e85 := (f_I62.2.1 v0 12 44 kv0 (by decide) (by decide)).trans eb60
      have u86 : (I62 v0 0).toInt = (I40 v0 0).toInt := by rw [f_I62.2.2.1 v0 12 0 kv0 (by decide) (by decide)]
      have u87 : (I62 v0 22).toInt = (I40 v0 22).toInt := by rw [f_I62.2.2.1 v0 12 22 kv0 (by decide) (by decide)]
      have rr61 := i_rng r61
      have t88 : (0 : Int32).toInt = 0 := rfl
      have t89 : (-1 : Int32).toInt = -1 := rfl
      have t90 : (0 : Int32).toInt = 0 := rfl
      exact ⟨(6 - (0 : Int32).toInt).toNat + 1, l_X12_feast_L38 w_I v0 v1 kv0 r61  hQ   _ (0 : Int32) (-1 : Int32) (0 : Int32) Z64 I62 L63 w_I62 bd_Z64 q_I62 cp_Z64   (by omega)  (by omega)⟩
    · skip
      first | (have t91 : r52.toInt = (0) := (i_eq rfl (show (0 : Int32).toInt = 0 from rfl)).mp c54) | (have t91 : r52.toInt = (0 : Int32).toInt := (i_eq rfl rfl).mp c54) | skip
      have t92 : (-1 : Int32).toInt = -1 := rfl
      exact hQ (-1 : Int32) Z I40 L w_I40 bd_Z q_I40 cp_Z 
def Ws_X12_jam : List (Nat × Nat) := [(12, 21), (12, 22), (12, 24), (12, 25), (12, 26), (12, 27), (12, 31), (12, 32), (12, 33), (12, 34), (12, 37), (12, 38), (12, 40), (12, 41), (12, 42), (12, 43), (12, 44), (12, 55), (12, 56), (12, 57), (12, 58), (12, 59), (12, 60), (12, 61)]
set_option maxHeartbeats 4000000 in
set_option maxRecDepth 100000 in
theorem l_X12_jam_L26 {B : Nat × Nat} {T : Nat} {Z0 : jZ} {I0 : jI} {Q : Int32 → jZ → jI → jL → Prop} (w0 : WD Z0 I0) (v0 : Nat) (kv0 : jk Z0 v0 12) (hQ : ∀ (r : Int32) (Z' : jZ) (I' : jI) (L' : jL), WD Z' I' → BUD B Z' T → FR Ws_X12_jam Z0 I0 Z' I' → CP Z0 Z' → Q r Z' I' L') : ∀ (n : Nat) (v1 : Int32) (v2 : Int32) (Z : jZ) (I : jI) (L : jL), WD Z I → BUD B Z T → FR Ws_X12_jam Z0 I0 Z I → CP Z0 Z →   (-2 ≤ v1.toInt ∧ v1.toInt ≤ 23 ∧ 0 ≤ v2.toInt ∧ v2.toInt ≤ 24) → 24 - v2.toInt < (n : Int) → f_X12_jam_L26 B  Q n v0 v1 v2 Z I L := by
  intro n
  induction n with
  | zero =>
    intro v1 v2 Z I L w_I bd_Z q_I cp_Z   li  me
    exfalso
    omega
  | succ n ih =>
    intro v1 v2 Z I L w_I bd_Z q_I cp_Z   li  me
    unfold f_X12_jam_L26
    have rv1 := i_rng v1
    have rv2 := i_rng v2
    have kv0_0 := kv0
    have kv0 := (q_I.1 _ _ kv0).1
    have t1 : 0 ≤ (I v0 0).toInt ∧ (I v0 0).toInt ≤ 24 := w_I.fld 12 0 kv0 (by decide)
    have xq_I := q_I.1
    have t3 : 0 ≤ (I v0 0).toInt ∧ (I v0 0).toInt ≤ 24 := w_I.fld 12 0 kv0 (by decide)
    refine ⟨fun c4 => ?_, fun c4 => ?_⟩
    · skip
      first | (have t5 : (I v0 0).toInt ≤ v2.toInt := (i_le rfl rfl).mp c4) | (have t5 : (I v0 0).toInt ≤ v2.toInt := (i_le rfl rfl).mp c4) | skip
      refine ⟨fun c6 => ?_, fun c6 => ?_⟩
      · skip
        first | (have t7 : (0) ≤ v1.toInt := (i_le (show (0 : Int32).toInt = 0 from rfl) rfl).mp c6) | (have t7 : (0 : Int32).toInt ≤ v1.toInt := (i_le rfl rfl).mp c6) | skip
        intro I8 eI8
        have t9 : (0 : Int32).toInt = 0 := rfl
        have w_I8 : WD Z I8 := by rw [eI8]; exact WD_putF w_I 12 21 kv0 (by decide) (by decide) (by constructor <;> omega)
        have f_I8 : FR [(12, 21)] Z I Z I8 := by rw [eI8]; exact FR_putF kv0 (by decide) List.mem_cons_self
        have q_I8 : FR Ws_X12_jam Z0 I0 Z I8 := q_I.trans w0.1 w0.2.1 (f_I8.mono (by decide))
        have u10 : (I8 v0 0).toInt = (I v0 0).toInt := by rw [f_I8.2.2.1 v0 12 0 kv0 (by decide) (by decide)]
        first | (have u11 : (I8 v0 21).toInt = (0) := by (rw [eI8, show jpI I v0 21 (0 : Int32) v0 21 = (0 : Int32) from jpI_at] <;> exact (show (0 : Int32).toInt = 0 from rfl))) | skip
        intro b12 eb12
        obtain ⟨x13, ex13, kb12, lb12⟩ := sh_f w_I8.1 kv0 (j := 59) (k := 14) (m := 24) rfl
        cases eb12.symm.trans ex13
        have o14 : vp_in v1 24 := vi_of rfl (by omega) (by omega)
        refine ⟨o14, ?_⟩
        refine s_X12_tell w_I8 v0 ((I8 b12 v1.toNatClampNeg).toInt64) kv0  (by omega) (fun  I16 L17 w_I16 f_I16 p15 => ?_)
        have q_I16 : FR Ws_X12_jam Z0 I0 Z I16 := q_I8.trans w0.1 w0.2.1 (f_I16.mono (by decide))
        have u18 : (I16 v0 0).toInt = (I8 v0 0).toInt := by rw [f_I16.2.2.1 v0 12 0 kv0 (by decide) (by decide)]
        exact hQ v1 Z I16 L17 w_I16 bd_Z q_I16 cp_Z 
      · skip
        first | (have t19 : ¬ ((0) ≤ v1.toInt) := (not_congr (i_le (show (0 : Int32).toInt = 0 from rfl) rfl)).mp c6) | (have t19 : ¬ ((0 : Int32).toInt ≤ v1.toInt) := (not_congr (i_le rfl rfl)).mp c6) | skip
        have t20 : (-2 : Int32).toInt = -2 := rfl
        exact hQ (-2 : Int32) Z I L w_I bd_Z q_I cp_Z 
    · skip
      first | (have t21 : ¬ ((I v0 0).toInt ≤ v2.toInt) := (not_congr (i_le rfl rfl)).mp c4) | (have t21 : ¬ ((I v0 0).toInt ≤ v2.toInt) := (not_congr (i_le rfl rfl)).mp c4) | skip
      intro b22 eb22
      obtain ⟨x23, ex23, kb22, lb22⟩ := sh_f w_I.1 kv0 (j := 59) (k := 14) (m := 24) rfl
      cases eb22.symm.trans ex23
      have o24 : vp_in v2 24 := vi_of rfl (by omega) (by omega)
      refine ⟨o24, ?_⟩
      refine ⟨fun c25 => ?_, fun c25 => ?_⟩
      · skip
        first | (have t26 : (0) ≤ v1.toInt := (i_le (show (0 : Int32).toInt = 0 from rfl) rfl).mp c25) | (have t26 : (0 : Int32).toInt ≤ v1.toInt := (i_le rfl rfl).mp c25) | skip
        intro b27 eb27
        obtain rfl : b22 = b27 := Option.some.inj (eb22.symm.trans eb27)
        have o28 : vp_in v1 24 := vi_of rfl (by omega) (by omega)
        refine ⟨o28, ?_⟩
        unfold f_X12_jam_b54
        refine ⟨fun c29 => ?_, fun c29 => ?_⟩
        · skip
          first | (have t30 : (I b22 v2.toNatClampNeg).toInt ≤ (I b22 v1.toNatClampNeg).toInt := (i_le rfl rfl).mp c29) | (have t30 : (I b22 v2.toNatClampNeg).toInt ≤ (I b22 v1.toNatClampNeg).toInt := (i_le rfl rfl).mp c29) | skip
          unfold f_X12_jam_b59
          intro x31 ex31
          have rx31 := i_rng x31
          first | (have tx31 : x31.toInt = v2.toInt + (1) := by (rw [ex31]; exact (i_add rfl (show (1 : Int32).toInt = 1 from rfl) (by omega) (by omega)))) | skip
          exact ih v1 x31 Z I L w_I bd_Z q_I cp_Z   (by omega)  (by omega)
        · skip
          first | (have t32 : ¬ ((I b22 v2.toNatClampNeg).toInt ≤ (I b22 v1.toNatClampNeg).toInt) := (not_congr (i_le rfl rfl)).mp c29) | (have t32 : ¬ ((I b22 v2.toNatClampNeg).toInt ≤ (I b22 v1.toNatClampNeg).toInt) := (not_congr (i_le rfl rfl)).mp c29) | skip
          unfold f_X12_jam_b59
          intro x33 ex33
          have rx33 := i_rng x33
          first | (have tx33 : x33.toInt = v2.toInt + (1) := by (rw [ex33]; exact (i_add rfl (show (1 : Int32).toInt = 1 from rfl) (by omega) (by omega)))) | skip
          exact ih v2 x33 Z I L w_I bd_Z q_I cp_Z   (by omega)  (by omega)
      · skip
        first | (have t34 : ¬ ((0) ≤ v1.toInt) := (not_congr (i_le (show (0 : Int32).toInt = 0 from rfl) rfl)).mp c25) | (have t34 : ¬ ((0 : Int32).toInt ≤ v1.toInt) := (not_congr (i_le rfl rfl)).mp c25) | skip
        unfold f_X12_jam_b54
        refine ⟨fun c35 => ?_, fun c35 => ?_⟩
        · skip
          first | (have t36 : (I b22 v2.toNatClampNeg).toInt ≤ (0) := (i_le rfl (show (0 : Int32).toInt = 0 from rfl)).mp c35) | (have t36 : (I b22 v2.toNatClampNeg).toInt ≤ (0 : Int32).toInt := (i_le rfl rfl).mp c35) | skip
          unfold f_X12_jam_b59
          intro x37 ex37
          have rx37 := i_rng x37
          first | (have tx37 : x37.toInt = v2.toInt + (1) := by (rw [ex37]; exact (i_add rfl (show (1 : Int32).toInt = 1 from rfl) (by omega) (by omega)))) | skip
          exact ih v1 x37 Z I L w_I bd_Z q_I cp_Z   (by omega)  (by omega)
        · skip
          first | (have t38 : ¬ ((I b22 v2.toNatClampNeg).toInt ≤ (0)) := (not_congr (i_le rfl (show (0 : Int32).toInt = 0 from rfl))).mp c35) | (have t38 : ¬ ((I b22 v2.toNatClampNeg).toInt ≤ (0 : Int32).toInt) := (not_congr (i_le rfl rfl)).mp c35) | skip
          unfold f_X12_jam_b59
          intro x39 ex39
          have rx39 := i_rng x39
          first | (have tx39 : x39.toInt = v2.toInt + (1) := by (rw [ex39]; exact (i_add rfl (show (1 : Int32).toInt = 1 from rfl) (by omega) (by omega)))) | skip
          exact ih v2 x39 Z I L w_I bd_Z q_I cp_Z   (by omega)  (by omega)
set_option maxHeartbeats 4000000 in
set_option maxRecDepth 100000 in
theorem s_X12_jam {B : Nat × Nat} {T : Nat} {Z : jZ} {I : jI} {L : jL} (w_I : WD Z I) (bd_Z : BUD B Z T) (v0 : Nat) (kv0 : jk Z v0 12) {Q : Int32 → jZ → jI → jL → Prop} (hQ : ∀ (r : Int32) (Z' : jZ) (I' : jI) (L' : jL), WD Z' I' → BUD B Z' T → FR Ws_X12_jam Z I Z' I' → CP Z Z' → Q r Z' I' L') : f_X12_jam B v0 Z I L Q := by
  unfold f_X12_jam
  have q_I : FR Ws_X12_jam Z I Z I := FR.rf
  have cp_Z : CP Z Z := CP.rf
  have t40 : 0 ≤ (I v0 0).toInt ∧ (I v0 0).toInt ≤ 24 := w_I.fld 12 0 kv0 (by decide)
  intro I41 eI41
  have t42 : (0 : Int32).toInt = 0 := rfl
  have w_I41 : WD Z I41 := by rw [eI41]; exact WD_putF w_I 12 22 kv0 (by decide) (by decide) trivial
  have f_I41 : FR [(12, 22)] Z I Z I41 := by rw [eI41]; exact FR_putF kv0 (by decide) List.mem_cons_self
  have q_I41 : FR Ws_X12_jam Z I Z I41 := q_I.trans w_I.1 w_I.2.1 (f_I41.mono (by decide))
  have u43 : (I41 v0 0).toInt = (I v0 0).toInt := by rw [f_I41.2.2.1 v0 12 0 kv0 (by decide) (by decide)]
  first | (have u44 : (I41 v0 22).toInt = (0) := by (rw [eI41, show jpI I v0 22 (0 : Int32) v0 22 = (0 : Int32) from jpI_at] <;> exact (show (0 : Int32).toInt = 0 from rfl))) | skip
  have t46 : 0 ≤ (I41 v0 0).toInt ∧ (I41 v0 0).toInt ≤ 24 := w_I41.fld 12 0 kv0 (by decide)
  refine ⟨fun c47 => ?_, fun c47 => ?_⟩
  · skip
    first | (have t48 : ¬ ((I41 v0 0).toInt = (0)) := (not_congr (i_eq rfl (show (0 : Int32).toInt = 0 from rfl))).mp c47) | (have t48 : ¬ ((I41 v0 0).toInt = (0 : Int32).toInt) := (not_congr (i_eq rfl rfl)).mp c47) | skip
    have t49 : (1 : Int32).toInt = 1 := rfl
    obtain ⟨b50, eb50, kb50, lb50⟩ := sh_f w_I41.1 kv0 (j := 55) (k := 14) (m := 144) rfl
    obtain ⟨b51, eb51, kb51, lb51⟩ := sh_f w_I41.1 kv0 (j := 56) (k := 14) (m := 6) rfl
    obtain ⟨b52, eb52, kb52, lb52⟩ := sh_f w_I41.1 kv0 (j := 57) (k := 14) (m := 6) rfl
    obtain ⟨b53, eb53, kb53, lb53⟩ := sh_f w_I41.1 kv0 (j := 61) (k := 14) (m := 6) rfl
    obtain ⟨b54, eb54, kb54, lb54⟩ := sh_f w_I41.1 kv0 (j := 44) (k := 14) (m := 24) rfl
    refine s_X12_runFeast w_I41 bd_Z v0 (1 : Int32) kv0 b50 eb50 b51 eb51 b52 eb52 b53 eb53 b54 eb54 (by omega) (by omega) (fun r55 Z58 I56 L57 w_I56 bd_Z58 f_I56 c_Z58  => ?_)
    have q_I56 : FR Ws_X12_jam Z I Z58 I56 := q_I41.trans w_I.1 w_I.2.1 (f_I56.mono (by decide))
    have cp_Z58 : CP Z Z58 := cp_Z.trans q_I41.1 c_Z58
    have x_Z58 := f_I56.1
    have k59 := (f_I56.1 _ _ kv0).1
    have k60 := (f_I56.1 _ _ kb50).1
    have l61 := (f_I56.1 _ _ kb50).2.trans lb50
    have k62 := (f_I56.1 _ _ kv0).1
    have e63 := (f_I56.2.1 v0 12 55 kv0 (by decide) (by decide)).trans eb50
    have k64 := (f_I56.1 _ _ kb51).1
    have l65 := (f_I56.1 _ _ kb51).2.trans lb51
    have k66 := (f_I56.1 _ _ kv0).1
    have e67 := (f_I56.2.1 v0 12 56 kv0 (by decide) (by decide)).trans eb51
    have k68 := (f_I56.1 _ _ kb52).1
    have l69 := (f_I56.1 _ _ kb52).2.trans lb52
    have k70 := (f_I56.1 _ _ kv0).1
    have e71 := (f_I56.2.1 v0 12 57 kv0 (by decide) (by decide)).trans eb52
    have k72 := (f_I56.1 _ _ kb53).1
    have l73 := (f_I56.1 _ _ kb53).2.trans lb53
    have k74 := (f_I56.1 _ _ kv0).1
    have e75 := (f_I56.2.1 v0 12 61 kv0 (by decide) (by decide)).trans eb53
    have k76 := (f_I56.1 _ _ kb54).1
    have l77 := (f_I56.1 _ _ kb54).2.trans lb54
    have k78 := (f_I56.1 _ _ kv0).1
    have e79 := (f_I56.2.1 v0 12 44 kv0 (by decide) (by decide)).trans eb54
    have u80 : (I56 v0 0).toInt = (I41 v0 0).toInt := by rw [f_I56.2.2.1 v0 12 0 kv0 (by decide) (by decide)]
    have u81 : (I56 v0 22).toInt = (I41 v0 22).toInt := by rw [f_I56.2.2.1 v0 12 22 kv0 (by decide) (by decide)]
    have rr55 := i_rng r55
    have t82 : (-2 : Int32).toInt = -2 := rfl
    have t83 : (0 : Int32).toInt = 0 := rfl
    exact ⟨(24 - (0 : Int32).toInt).toNat + 1, l_X12_jam_L26 w_I v0 kv0   hQ   _ (-2 : Int32) (0 : Int32) Z58 I56 L57 w_I56 bd_Z58 q_I56 cp_Z58   (by omega)  (by omega)⟩
  · skip
    first | (have t84 : (I41 v0 0).toInt = (0) := (i_eq rfl (show (0 : Int32).toInt = 0 from rfl)).mp c47) | (have t84 : (I41 v0 0).toInt = (0 : Int32).toInt := (i_eq rfl rfl).mp c47) | skip
    have t85 : (-2 : Int32).toInt = -2 := rfl
    exact hQ (-2 : Int32) Z I41 L w_I41 bd_Z q_I41 cp_Z 
