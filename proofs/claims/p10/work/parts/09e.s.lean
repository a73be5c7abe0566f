set_option maxHeartbeats 4000000 in
set_option maxRecDepth 100000 in
theorem s_X12_here {Z : jZ} {I : jI} {L : jL} (w_I : WD Z I) (v0 : Nat) (kv0 : jk Z v0 12) (uR : Nat) (huR : jr Z v0 23 = some uR) (kuR : jk Z uR 13) (p0 : 0 ≤ (I v0 26).toInt ∧ (I v0 26).toInt ≤ (I v0 24).toInt ∧ (I v0 26).toInt ≤ (I v0 25).toInt ∧ (I v0 24).toInt ≤ (jlen Z uR : Int) ∧ jlen Z uR ≤ 80) {Q : Int32 → jI → jL → Prop} (hQ : ∀ (r : Int32), (r.toInt = -1 ∨ ((I v0 26).toInt < (I v0 24).toInt ∧ (I v0 26).toInt < (I v0 25).toInt)) → Q r I L) : f_X12_here v0 Z I L Q := by
  unfold f_X12_here
  refine ⟨fun c1 => ?_, fun c1 => ?_⟩
  · skip
    first | (have t2 : (I v0 24).toInt ≤ (I v0 26).toInt := (i_le rfl rfl).mp c1) | (have t2 : (I v0 24).toInt ≤ (I v0 26).toInt := (i_le rfl rfl).mp c1) | skip
    have t3 : (-1 : Int32).toInt = -1 := rfl
    exact hQ (-1 : Int32) (by omega)
  · skip
    first | (have t4 : ¬ ((I v0 24).toInt ≤ (I v0 26).toInt) := (not_congr (i_le rfl rfl)).mp c1) | (have t4 : ¬ ((I v0 24).toInt ≤ (I v0 26).toInt) := (not_congr (i_le rfl rfl)).mp c1) | skip
    refine ⟨fun c5 => ?_, fun c5 => ?_⟩
    · skip
      first | (have t6 : (I v0 25).toInt ≤ (I v0 26).toInt := (i_le rfl rfl).mp c5) | (have t6 : (I v0 25).toInt ≤ (I v0 26).toInt := (i_le rfl rfl).mp c5) | skip
      have t7 : (-1 : Int32).toInt = -1 := rfl
      exact hQ (-1 : Int32) (by omega)
    · skip
      first | (have t8 : ¬ ((I v0 25).toInt ≤ (I v0 26).toInt) := (not_congr (i_le rfl rfl)).mp c5) | (have t8 : ¬ ((I v0 25).toInt ≤ (I v0 26).toInt) := (not_congr (i_le rfl rfl)).mp c5) | skip
      refine ⟨uR, huR, kuR, ?_⟩
      have o10 : vp_in (I v0 26) (jlen Z uR) := vi_of rfl (by omega) (by omega)
      refine ⟨o10, ?_⟩
      exact hQ (I uR (I v0 26).toNatClampNeg) (by omega)
set_option maxHeartbeats 4000000 in
set_option maxRecDepth 100000 in
theorem s_X12_fine {Z : jZ} {I : jI} {L : jL} (w_I : WD Z I) (v0 : Nat) (kv0 : jk Z v0 12) {Q : Int32 → jI → jL → Prop} (hQ : ∀ (r : Int32), ((r.toInt = 1 ∧ ((I v0 27).toInt = -1)) ∨ (r.toInt = 0 ∧ ¬ ((I v0 27).toInt = -1))) → Q r I L) : f_X12_fine v0 Z I L Q := by
  unfold f_X12_fine
  refine ⟨fun c1 => ?_, fun c1 => ?_⟩
  · skip
    first | (have t2 : ¬ ((I v0 27).toInt = (-1)) := (not_congr (i_eq rfl (show (-1 : Int32).toInt = -1 from rfl))).mp c1) | (have t2 : ¬ ((I v0 27).toInt = (-1 : Int32).toInt) := (not_congr (i_eq rfl rfl)).mp c1) | skip
    have t3 : (0 : Int32).toInt = 0 := rfl
    exact hQ (0 : Int32) (by omega)
  · skip
    first | (have t4 : (I v0 27).toInt = (-1) := (i_eq rfl (show (-1 : Int32).toInt = -1 from rfl)).mp c1) | (have t4 : (I v0 27).toInt = (-1 : Int32).toInt := (i_eq rfl rfl).mp c1) | skip
    have t5 : (1 : Int32).toInt = 1 := rfl
    exact hQ (1 : Int32) (by omega)
def Ws_X12_fault : List (Nat × Nat) := [(12, 27)]
set_option maxHeartbeats 4000000 in
set_option maxRecDepth 100000 in
theorem s_X12_fault {Z : jZ} {I : jI} {L : jL} (w_I : WD Z I) (v0 : Nat) (v1 : Int32) (kv0 : jk Z v0 12) {Q : jI → jL → Prop} (hQ : ∀  (I' : jI) (L' : jL), WD Z I' → FR Ws_X12_fault Z I Z I' → (((I v0 27).toInt = -1 ∧ (I' v0 27).toInt = v1.toInt) ∨ (¬ (I v0 27).toInt = -1 ∧ (I' v0 27).toInt = (I v0 27).toInt)) → Q I' L') : f_X12_fault v0 v1 Z I L Q := by
  unfold f_X12_fault
  have q_I : FR Ws_X12_fault Z I Z I := FR.rf
  have rv1 := i_rng v1
  refine s_X12_fine w_I v0 kv0   (fun r1 p2 => ?_)
  have rr1 := i_rng r1
  refine ⟨fun c3 => ?_, fun c3 => ?_⟩
  · skip
    first | (have t4 : r1.toInt = (0) := (i_eq rfl (show (0 : Int32).toInt = 0 from rfl)).mp c3) | (have t4 : r1.toInt = (0 : Int32).toInt := (i_eq rfl rfl).mp c3) | skip
    exact hQ  I L w_I q_I (by omega)
  · skip
    first | (have t5 : ¬ (r1.toInt = (0)) := (not_congr (i_eq rfl (show (0 : Int32).toInt = 0 from rfl))).mp c3) | (have t5 : ¬ (r1.toInt = (0 : Int32).toInt) := (not_congr (i_eq rfl rfl)).mp c3) | skip
    intro I6 eI6
    have w_I6 : WD Z I6 := by rw [eI6]; exact WD_putF w_I 12 27 kv0 (by decide) (by decide) trivial
    have f_I6 : FR [(12, 27)] Z I Z I6 := by rw [eI6]; exact FR_putF kv0 (by decide) List.mem_cons_self
    have q_I6 : FR Ws_X12_fault Z I Z I6 := q_I.trans w_I.1 w_I.2.1 (f_I6.mono (by decide))
    first | (have u7 : (I6 v0 27).toInt = v1.toInt := by (rw [eI6, show jpI I v0 27 v1 v0 27 = v1 from jpI_at] <;> exact rfl)) | skip
    exact hQ  I6 L w_I6 q_I6 (by omega)
def Ws_X12_passes : List (Nat × Nat) := [(12, 26)]
set_option maxHeartbeats 4000000 in
set_option maxRecDepth 100000 in
theorem s_X12_passes {Z : jZ} {I : jI} {L : jL} (w_I : WD Z I) (v0 : Nat) (v1 : Int32) (kv0 : jk Z v0 12) (uR : Nat) (huR : jr Z v0 23 = some uR) (kuR : jk Z uR 13) (p0 : 0 ≤ (I v0 26).toInt ∧ (I v0 26).toInt ≤ (I v0 24).toInt ∧ (I v0 26).toInt ≤ (I v0 25).toInt ∧ (I v0 24).toInt ≤ (jlen Z uR : Int) ∧ jlen Z uR ≤ 80) (p1 : 0 ≤ v1.toInt) {Q : Int32 → jI → jL → Prop} (hQ : ∀ (r : Int32) (I' : jI) (L' : jL), WD Z I' → FR Ws_X12_passes Z I Z I' → ((r.toInt = 1 ∧ (I' v0 26).toInt = (I v0 26).toInt + 1 ∧ (I v0 26).toInt < (I v0 24).toInt ∧ (I v0 26).toInt < (I v0 25).toInt ∧ (I v0 27).toInt = -1) ∨ (r.toInt = 0 ∧ (I' v0 26).toInt = (I v0 26).toInt)) → Q r I' L') : f_X12_passes v0 v1 Z I L Q := by
  unfold f_X12_passes
  have q_I : FR Ws_X12_passes Z I Z I := FR.rf
  have rv1 := i_rng v1
  refine s_X12_fine w_I v0 kv0   (fun r1 p2 => ?_)
  have rr1 := i_rng r1
  refine ⟨fun c3 => ?_, fun c3 => ?_⟩
  · skip
    first | (have t4 : r1.toInt = (0) := (i_eq rfl (show (0 : Int32).toInt = 0 from rfl)).mp c3) | (have t4 : r1.toInt = (0 : Int32).toInt := (i_eq rfl rfl).mp c3) | skip
    have t5 : (0 : Int32).toInt = 0 := rfl
    exact hQ (0 : Int32) I L w_I q_I (by omega)
  · skip
    first | (have t6 : ¬ (r1.toInt = (0)) := (not_congr (i_eq rfl (show (0 : Int32).toInt = 0 from rfl))).mp c3) | (have t6 : ¬ (r1.toInt = (0 : Int32).toInt) := (not_congr (i_eq rfl rfl)).mp c3) | skip
    refine s_X12_here w_I v0 kv0 uR huR kuR (by omega) (fun r7 p8 => ?_)
    have rr7 := i_rng r7
    refine ⟨fun c9 => ?_, fun c9 => ?_⟩
    · skip
      first | (have t10 : r7.toInt = v1.toInt := (i_eq rfl rfl).mp c9) | (have t10 : r7.toInt = v1.toInt := (i_eq rfl rfl).mp c9) | skip
      intro I11 eI11
      try (have t12 : ((I v0 26) + (1 : Int32)).toInt = ((I v0 26).toInt + (1)) := (i_add rfl (show (1 : Int32).toInt = 1 from rfl) (by omega) (by omega)))
      have w_I11 : WD Z I11 := by rw [eI11]; exact WD_putF w_I 12 26 kv0 (by decide) (by decide) trivial
      have f_I11 : FR [(12, 26)] Z I Z I11 := by rw [eI11]; exact FR_putF kv0 (by decide) List.mem_cons_self
      have q_I11 : FR Ws_X12_passes Z I Z I11 := q_I.trans w_I.1 w_I.2.1 (f_I11.mono (by decide))
      have u13 : (I11 v0 24).toInt = (I v0 24).toInt := by rw [f_I11.2.2.1 v0 12 24 kv0 (by decide) (by decide)]
      have u14 : (I11 v0 25).toInt = (I v0 25).toInt := by rw [f_I11.2.2.1 v0 12 25 kv0 (by decide) (by decide)]
      have u15 : (I11 v0 27).toInt = (I v0 27).toInt := by rw [f_I11.2.2.1 v0 12 27 kv0 (by decide) (by decide)]
      first | (have u16 : (I11 v0 26).toInt = ((I v0 26).toInt + (1)) := by (rw [eI11, show jpI I v0 26 ((I v0 26) + (1 : Int32)) v0 26 = ((I v0 26) + (1 : Int32)) from jpI_at] <;> exact (i_add rfl (show (1 : Int32).toInt = 1 from rfl) (by omega) (by omega)))) | skip
      have t17 : (1 : Int32).toInt = 1 := rfl
      exact hQ (1 : Int32) I11 L w_I11 q_I11 (by omega)
    · skip
      first | (have t18 : ¬ (r7.toInt = v1.toInt) := (not_congr (i_eq rfl rfl)).mp c9) | (have t18 : ¬ (r7.toInt = v1.toInt) := (not_congr (i_eq rfl rfl)).mp c9) | skip
      have t19 : (0 : Int32).toInt = 0 := rfl
      exact hQ (0 : Int32) I L w_I q_I (by omega)
def Ws_X12_need : List (Nat × Nat) := [(12, 26), (12, 27)]
set_option maxHeartbeats 4000000 in
set_option maxRecDepth 100000 in
theorem s_X12_need {Z : jZ} {I : jI} {L : jL} (w_I : WD Z I) (v0 : Nat) (v1 : Int32) (kv0 : jk Z v0 12) (uR : Nat) (huR : jr Z v0 23 = some uR) (kuR : jk Z uR 13) (p0 : 0 ≤ (I v0 26).toInt ∧ (I v0 26).toInt ≤ (I v0 24).toInt ∧ (I v0 26).toInt ≤ (I v0 25).toInt ∧ (I v0 24).toInt ≤ (jlen Z uR : Int) ∧ jlen Z uR ≤ 80) (p1 : 0 ≤ v1.toInt) {Q : jI → jL → Prop} (hQ : ∀  (I' : jI) (L' : jL), WD Z I' → FR Ws_X12_need Z I Z I' → ((I v0 26).toInt ≤ (I' v0 26).toInt ∧ (I' v0 26).toInt ≤ (I v0 24).toInt ∧ (I' v0 26).toInt ≤ (I v0 25).toInt ∧ (¬ (I v0 27).toInt = -1 → ¬ (I' v0 27).toInt = -1)) → Q I' L') : f_X12_need v0 v1 Z I L Q := by
  unfold f_X12_need
  have q_I : FR Ws_X12_need Z I Z I := FR.rf
  have rv1 := i_rng v1
  refine s_X12_passes w_I v0 v1 kv0 uR huR kuR (by omega) (by omega) (fun r1 I3 L4 w_I3 f_I3 p2 => ?_)
  have q_I3 : FR Ws_X12_need Z I Z I3 := q_I.trans w_I.1 w_I.2.1 (f_I3.mono (by decide))
  have u5 : (I3 v0 24).toInt = (I v0 24).toInt := by rw [f_I3.2.2.1 v0 12 24 kv0 (by decide) (by decide)]
  have u6 : (I3 v0 25).toInt = (I v0 25).toInt := by rw [f_I3.2.2.1 v0 12 25 kv0 (by decide) (by decide)]
  have u7 : (I3 v0 27).toInt = (I v0 27).toInt := by rw [f_I3.2.2.1 v0 12 27 kv0 (by decide) (by decide)]
  have rr1 := i_rng r1
  refine ⟨fun c8 => ?_, fun c8 => ?_⟩
  · skip
    first | (have t9 : ¬ (r1.toInt = (0)) := (not_congr (i_eq rfl (show (0 : Int32).toInt = 0 from rfl))).mp c8) | (have t9 : ¬ (r1.toInt = (0 : Int32).toInt) := (not_congr (i_eq rfl rfl)).mp c8) | skip
    exact hQ  I3 L4 w_I3 q_I3 (by omega)
  · skip
    first | (have t10 : r1.toInt = (0) := (i_eq rfl (show (0 : Int32).toInt = 0 from rfl)).mp c8) | (have t10 : r1.toInt = (0 : Int32).toInt := (i_eq rfl rfl).mp c8) | skip
    refine s_X12_fault w_I3 v0 (I3 v0 26) kv0   (fun  I12 L13 w_I12 f_I12 p11 => ?_)
    have q_I12 : FR Ws_X12_need Z I Z I12 := q_I3.trans w_I.1 w_I.2.1 (f_I12.mono (by decide))
    have u14 : (I12 v0 24).toInt = (I3 v0 24).toInt := by rw [f_I12.2.2.1 v0 12 24 kv0 (by decide) (by decide)]
    have u15 : (I12 v0 25).toInt = (I3 v0 25).toInt := by rw [f_I12.2.2.1 v0 12 25 kv0 (by decide) (by decide)]
    have u16 : (I12 v0 26).toInt = (I3 v0 26).toInt := by rw [f_I12.2.2.1 v0 12 26 kv0 (by decide) (by decide)]
    exact hQ  I12 L13 w_I12 q_I12 (by omega)
def Ws_X12_number : List (Nat × Nat) := [(12, 26), (12, 27)]
set_option maxHeartbeats 4000000 in
set_option maxRecDepth 100000 in
theorem l_X12_number_L18 {Z : jZ} {I0 : jI} {Q : Int32 → jI → jL → Prop} (w0 : WD Z I0) (v0 : Nat) (v1 : Int32) (v2 : Int32) (v3 : Int32) (kv0 : jk Z v0 12) (uR : Nat) (huR : jr Z v0 23 = some uR) (kuR : jk Z uR 13) (p0 : 0 ≤ (I0 v0 26).toInt ∧ (I0 v0 26).toInt ≤ (I0 v0 24).toInt ∧ (I0 v0 26).toInt ≤ (I0 v0 25).toInt ∧ (I0 v0 24).toInt ≤ (jlen Z uR : Int) ∧ jlen Z uR ≤ 80) (p1 : 1 ≤ v1.toInt ∧ v1.toInt ≤ 3) (v4 : Int32) (hQ : ∀ (r : Int32) (I' : jI) (L' : jL), WD Z I' → FR Ws_X12_number Z I0 Z I' → ((I0 v0 26).toInt ≤ (I' v0 26).toInt ∧ (I' v0 26).toInt ≤ (I0 v0 24).toInt ∧ (I' v0 26).toInt ≤ (I0 v0 25).toInt ∧ (¬ (I0 v0 27).toInt = -1 → ¬ (I' v0 27).toInt = -1) ∧ (((I' v0 27).toInt = -1 ∧ v2.toInt ≤ r.toInt ∧ r.toInt ≤ v3.toInt) ∨ (¬ (I' v0 27).toInt = -1 ∧ r.toInt = 0))) → Q r I' L') : ∀ (n : Nat) (v5 : Int32) (I : jI) (L : jL), WD Z I → FR Ws_X12_number Z I0 Z I →   (0 ≤ (I v0 26).toInt ∧ (I v0 26).toInt ≤ (I v0 24).toInt ∧ (I v0 26).toInt ≤ (I v0 25).toInt ∧ (I v0 24).toInt ≤ (jlen Z uR : Int) ∧ jlen Z uR ≤ 80 ∧ v4.toInt = (I0 v0 26).toInt ∧ v4.toInt ≤ (I v0 26).toInt ∧ (I v0 26).toInt ≤ v4.toInt + v1.toInt ∧ (I v0 24).toInt = (I0 v0 24).toInt ∧ (I v0 25).toInt = (I0 v0 25).toInt ∧ (I v0 27).toInt = -1 ∧ (I0 v0 27).toInt = -1) → v4.toInt + v1.toInt - (I v0 26).toInt < (n : Int) → f_X12_number_L18  Z Q n v0 v1 v2 v3 v4 v5 I L := by
  intro n
  induction n with
  | zero =>
    intro v5 I L w_I q_I   li  me
    exfalso
    omega
  | succ n ih =>
    intro v5 I L w_I q_I   li  me
    unfold f_X12_number_L18
    have rv5 := i_rng v5
    have rv4 := i_rng v4
    have rv1 := i_rng v1
    have rv2 := i_rng v2
    have rv3 := i_rng v3
    refine ⟨fun c1 => ?_, fun c1 => ?_⟩
    · skip
      first | (have t2 : (v4.toInt + v1.toInt) ≤ (I v0 26).toInt := (i_le (i_add rfl rfl (by omega) (by omega)) rfl).mp c1) | (have t2 : (v4 + v1).toInt ≤ (I v0 26).toInt := (i_le rfl rfl).mp c1) | skip
      unfold f_X12_number_b71
      refine ⟨fun c3 => ?_, fun c3 => ?_⟩
      · skip
        first | (have t4 : ¬ ((I v0 26).toInt = v4.toInt) := (not_congr (i_eq rfl rfl)).mp c3) | (have t4 : ¬ ((I v0 26).toInt = v4.toInt) := (not_congr (i_eq rfl rfl)).mp c3) | skip
        refine s_X12_in w_I v5 v2 v3    (fun r5 p6 => ?_)
        have rr5 := i_rng r5
        refine ⟨fun c7 => ?_, fun c7 => ?_⟩
        · skip
          first | (have t8 : ¬ (r5.toInt = (0)) := (not_congr (i_eq rfl (show (0 : Int32).toInt = 0 from rfl))).mp c7) | (have t8 : ¬ (r5.toInt = (0 : Int32).toInt) := (not_congr (i_eq rfl rfl)).mp c7) | skip
          unfold f_X12_number_b111
          refine s_X12_fine w_I v0 kv0   (fun r9 p10 => ?_)
          have rr9 := i_rng r9
          refine ⟨fun c11 => ?_, fun c11 => ?_⟩
          · skip
            first | (have t12 : r9.toInt = (0) := (i_eq rfl (show (0 : Int32).toInt = 0 from rfl)).mp c11) | (have t12 : r9.toInt = (0 : Int32).toInt := (i_eq rfl rfl).mp c11) | skip
            have t13 : (0 : Int32).toInt = 0 := rfl
            exact hQ (0 : Int32) I L w_I q_I (by omega)
          · skip
            first | (have t14 : ¬ (r9.toInt = (0)) := (not_congr (i_eq rfl (show (0 : Int32).toInt = 0 from rfl))).mp c11) | (have t14 : ¬ (r9.toInt = (0 : Int32).toInt) := (not_congr (i_eq rfl rfl)).mp c11) | skip
            exact hQ v5 I L w_I q_I (by omega)
        · skip
          first | (have t15 : r5.toInt = (0) := (i_eq rfl (show (0 : Int32).toInt = 0 from rfl)).mp c7) | (have t15 : r5.toInt = (0 : Int32).toInt := (i_eq rfl rfl).mp c7) | skip
          try (have t16 : ((I v0 26) - (1 : Int32)).toInt = ((I v0 26).toInt - (1)) := (i_sub rfl (show (1 : Int32).toInt = 1 from rfl) (by omega) (by omega)))
          refine s_X12_fault w_I v0 ((I v0 26) - (1 : Int32)) kv0   (fun  I18 L19 w_I18 f_I18 p17 => ?_)
          have q_I18 : FR Ws_X12_number Z I0 Z I18 := q_I.trans w0.1 w0.2.1 (f_I18.mono (by decide))
          have u20 : (I18 v0 24).toInt = (I v0 24).toInt := by rw [f_I18.2.2.1 v0 12 24 kv0 (by decide) (by decide)]
          have u21 : (I18 v0 25).toInt = (I v0 25).toInt := by rw [f_I18.2.2.1 v0 12 25 kv0 (by decide) (by decide)]
          have u22 : (I18 v0 26).toInt = (I v0 26).toInt := by rw [f_I18.2.2.1 v0 12 26 kv0 (by decide) (by decide)]
          unfold f_X12_number_b111
          refine s_X12_fine w_I18 v0 kv0   (fun r23 p24 => ?_)
          have rr23 := i_rng r23
          refine ⟨fun c25 => ?_, fun c25 => ?_⟩
          · skip
            first | (have t26 : r23.toInt = (0) := (i_eq rfl (show (0 : Int32).toInt = 0 from rfl)).mp c25) | (have t26 : r23.toInt = (0 : Int32).toInt := (i_eq rfl rfl).mp c25) | skip
            have t27 : (0 : Int32).toInt = 0 := rfl
            exact hQ (0 : Int32) I18 L19 w_I18 q_I18 (by omega)
          · skip
            first | (have t28 : ¬ (r23.toInt = (0)) := (not_congr (i_eq rfl (show (0 : Int32).toInt = 0 from rfl))).mp c25) | (have t28 : ¬ (r23.toInt = (0 : Int32).toInt) := (not_congr (i_eq rfl rfl)).mp c25) | skip
            exact hQ v5 I18 L19 w_I18 q_I18 (by omega)
      · skip
        first | (have t29 : (I v0 26).toInt = v4.toInt := (i_eq rfl rfl).mp c3) | (have t29 : (I v0 26).toInt = v4.toInt := (i_eq rfl rfl).mp c3) | skip
        refine s_X12_fault w_I v0 (I v0 26) kv0   (fun  I31 L32 w_I31 f_I31 p30 => ?_)
        have q_I31 : FR Ws_X12_number Z I0 Z I31 := q_I.trans w0.1 w0.2.1 (f_I31.mono (by decide))
        have u33 : (I31 v0 24).toInt = (I v0 24).toInt := by rw [f_I31.2.2.1 v0 12 24 kv0 (by decide) (by decide)]
        have u34 : (I31 v0 25).toInt = (I v0 25).toInt := by rw [f_I31.2.2.1 v0 12 25 kv0 (by decide) (by decide)]
        have u35 : (I31 v0 26).toInt = (I v0 26).toInt := by rw [f_I31.2.2.1 v0 12 26 kv0 (by decide) (by decide)]
        unfold f_X12_number_b111
        refine s_X12_fine w_I31 v0 kv0   (fun r36 p37 => ?_)
        have rr36 := i_rng r36
        refine ⟨fun c38 => ?_, fun c38 => ?_⟩
        · skip
          first | (have t39 : r36.toInt = (0) := (i_eq rfl (show (0 : Int32).toInt = 0 from rfl)).mp c38) | (have t39 : r36.toInt = (0 : Int32).toInt := (i_eq rfl rfl).mp c38) | skip
          have t40 : (0 : Int32).toInt = 0 := rfl
          exact hQ (0 : Int32) I31 L32 w_I31 q_I31 (by omega)
        · skip
          first | (have t41 : ¬ (r36.toInt = (0)) := (not_congr (i_eq rfl (show (0 : Int32).toInt = 0 from rfl))).mp c38) | (have t41 : ¬ (r36.toInt = (0 : Int32).toInt) := (not_congr (i_eq rfl rfl)).mp c38) | skip
          exact hQ v5 I31 L32 w_I31 q_I31 (by omega)
    · skip
      first | (have t42 : ¬ ((v4.toInt + v1.toInt) ≤ (I v0 26).toInt) := (not_congr (i_le (i_add rfl rfl (by omega) (by omega)) rfl)).mp c1) | (have t42 : ¬ ((v4 + v1).toInt ≤ (I v0 26).toInt) := (not_congr (i_le rfl rfl)).mp c1) | skip
      refine s_X12_here w_I v0 kv0 uR huR kuR (by omega) (fun r43 p44 => ?_)
      have rr43 := i_rng r43
      have t45 : (48 : Int32).toInt = 48 := rfl
      have t46 : (57 : Int32).toInt = 57 := rfl
      refine s_X12_in w_I r43 (48 : Int32) (57 : Int32)    (fun r47 p48 => ?_)
      have rr47 := i_rng r47
      refine ⟨fun c49 => ?_, fun c49 => ?_⟩
      · skip
        first | (have t50 : r47.toInt = (0) := (i_eq rfl (show (0 : Int32).toInt = 0 from rfl)).mp c49) | (have t50 : r47.toInt = (0 : Int32).toInt := (i_eq rfl rfl).mp c49) | skip
        unfold f_X12_number_b71
        refine ⟨fun c51 => ?_, fun c51 => ?_⟩
        · skip
          first | (have t52 : ¬ ((I v0 26).toInt = v4.toInt) := (not_congr (i_eq rfl rfl)).mp c51) | (have t52 : ¬ ((I v0 26).toInt = v4.toInt) := (not_congr (i_eq rfl rfl)).mp c51) | skip
          refine s_X12_in w_I v5 v2 v3    (fun r53 p54 => ?_)
          have rr53 := i_rng r53
          refine ⟨fun c55 => ?_, fun c55 => ?_⟩
          · skip
            first | (have t56 : ¬ (r53.toInt = (0)) := (not_congr (i_eq rfl (show (0 : Int32).toInt = 0 from rfl))).mp c55) | (have t56 : ¬ (r53.toInt = (0 : Int32).toInt) := (not_congr (i_eq rfl rfl)).mp c55) | skip
            unfold f_X12_number_b111
            refine s_X12_fine w_I v0 kv0   (fun r57 p58 => ?_)
            have rr57 := i_rng r57
            refine ⟨fun c59 => ?_, fun c59 => ?_⟩
            · skip
              first | (have t60 : r57.toInt = (0) := (i_eq rfl (show (0 : Int32).toInt = 0 from rfl)).mp c59) | (have t60 : r57.toInt = (0 : Int32).toInt := (i_eq rfl rfl).mp c59) | skip
              have t61 : (0 : Int32).toInt = 0 := rfl
              exact hQ (0 : Int32) I L w_I q_I (by omega)
            · skip
              first | (have t62 : ¬ (r57.toInt = (0)) := (not_congr (i_eq rfl (show (0 : Int32).toInt = 0 from rfl))).mp c59) | (have t62 : ¬ (r57.toInt = (0 : Int32).toInt) := (not_congr (i_eq rfl rfl)).mp c59) | skip
              exact hQ v5 I L w_I q_I (by omega)
          · skip
            first | (have t63 : r53.toInt = (0) := (i_eq rfl (show (0 : Int32).toInt = 0 from rfl)).mp c55) | (have t63 : r53.toInt = (0 : Int32).toInt := (i_eq rfl rfl).mp c55) | skip
            try (have t64 : ((I v0 26) - (1 : Int32)).toInt = ((I v0 26).toInt - (1)) := (i_sub rfl (show (1 : Int32).toInt = 1 from rfl) (by omega) (by omega)))
            refine s_X12_fault w_I v0 ((I v0 26) - (1 : Int32)) kv0   (fun  I66 L67 w_I66 f_I66 p65 => ?_)
            have q_I66 : FR Ws_X12_number Z I0 Z I66 := q_I.trans w0.1 w0.2.1 (f_I66.mono (by decide))
            have u68 : (I66 v0 24).toInt = (I v0 24).toInt := by rw [f_I66.2.2.1 v0 12 24 kv0 (by decide) (by decide)]
            have u69 : (I66 v0 25).toInt = (I v0 25).toInt := by rw [f_I66.2.2.1 v0 12 25 kv0 (by decide) (by decide)]
            have u70 : (I66 v0 26).toInt = (I v0 26).toInt := by rw [f_I66.2.2.1 v0 12 26 kv0 (by decide) (by decide)]
            unfold f_X12_number_b111
            refine s_X12_fine w_I66 v0 kv0   (fun r71 p72 => ?_)
            have rr71 := i_rng r71
            refine ⟨fun c73 => ?_, fun c73 => ?_⟩
            · skip
              first | (have t74 : r71.toInt = (0) := (i_eq rfl (show (0 : Int32).toInt = 0 from rfl)).mp c73) | (have t74 : r71.toInt = (0 : Int32).toInt := (i_eq rfl rfl).mp c73) | skip
              have t75 : (0 : Int32).toInt = 0 := rfl
              exact hQ (0 : Int32) I66 L67 w_I66 q_I66 (by omega)
            · skip
              first | (have t76 : ¬ (r71.toInt = (0)) := (not_congr (i_eq rfl (show (0 : Int32).toInt = 0 from rfl))).mp c73) | (have t76 : ¬ (r71.toInt = (0 : Int32).toInt) := (not_congr (i_eq rfl rfl)).mp c73) | skip
              exact hQ v5 I66 L67 w_I66 q_I66 (by omega)
        · skip
          first | (have t77 : (I v0 26).toInt = v4.toInt := (i_eq rfl rfl).mp c51) | (have t77 : (I v0 26).toInt = v4.toInt := (i_eq rfl rfl).mp c51) | skip
          refine s_X12_fault w_I v0 (I v0 26) kv0   (fun  I79 L80 w_I79 f_I79 p78 => ?_)
          have q_I79 : FR Ws_X12_number Z I0 Z I79 := q_I.trans w0.1 w0.2.1 (f_I79.mono (by decide))
          have u81 : (I79 v0 24).toInt = (I v0 24).toInt := by rw [f_I79.2.2.1 v0 12 24 kv0 (by decide) (by decide)]
          have u82 : (I79 v0 25).toInt = (I v0 25).toInt := by rw [f_I79.2.2.1 v0 12 25 kv0 (by decide) (by decide)]
          have u83 : (I79 v0 26).toInt = (I v0 26).toInt := by rw [f_I79.2.2.1 v0 12 26 kv0 (by decide) (by decide)]
          unfold f_X12_number_b111
          refine s_X12_fine w_I79 v0 kv0   (fun r84 p85 => ?_)
          have rr84 := i_rng r84
          refine ⟨fun c86 => ?_, fun c86 => ?_⟩
          · skip
            first | (have t87 : r84.toInt = (0) := (i_eq rfl (show (0 : Int32).toInt = 0 from rfl)).mp c86) | (have t87 : r84.toInt = (0 : Int32).toInt := (i_eq rfl rfl).mp c86) | skip
            have t88 : (0 : Int32).toInt = 0 := rfl
            exact hQ (0 : Int32) I79 L80 w_I79 q_I79 (by omega)
          · skip
            first | (have t89 : ¬ (r84.toInt = (0)) := (not_congr (i_eq rfl (show (0 : Int32).toInt = 0 from rfl))).mp c86) | (have t89 : ¬ (r84.toInt = (0 : Int32).toInt) := (not_congr (i_eq rfl rfl)).mp c86) | skip
            exact hQ v5 I79 L80 w_I79 q_I79 (by omega)
      · skip
        first | (have t90 : ¬ (r47.toInt = (0)) := (not_congr (i_eq rfl (show (0 : Int32).toInt = 0 from rfl))).mp c49) | (have t90 : ¬ (r47.toInt = (0 : Int32).toInt) := (not_congr (i_eq rfl rfl)).mp c49) | skip
        refine s_X12_here w_I v0 kv0 uR huR kuR (by omega) (fun r91 p92 => ?_)
        have rr91 := i_rng r91
        intro x93 ex93
        have rx93 := i_rng x93
        first | (have tx93 : x93.toInt = ((((10) * v5.toInt) + r91.toInt) - (48)) := by (rw [ex93]; exact (i_sub (i_add (i_mul (show (10 : Int32).toInt = 10 from rfl) rfl (by omega) (by omega)) rfl (by omega) (by omega)) (show (48 : Int32).toInt = 48 from rfl) (by omega) (by omega)))) | (have tx93 : x93.toInt = ((((10 : Int32) * v5) + r91) - (48 : Int32)).toInt := by rw [ex93])
        intro I94 eI94
        try (have t95 : ((I v0 26) + (1 : Int32)).toInt = ((I v0 26).toInt + (1)) := (i_add rfl (show (1 : Int32).toInt = 1 from rfl) (by omega) (by omega)))
        have w_I94 : WD Z I94 := by rw [eI94]; exact WD_putF w_I 12 26 kv0 (by decide) (by decide) trivial
        have f_I94 : FR [(12, 26)] Z I Z I94 := by rw [eI94]; exact FR_putF kv0 (by decide) List.mem_cons_self
        have q_I94 : FR Ws_X12_number Z I0 Z I94 := q_I.trans w0.1 w0.2.1 (f_I94.mono (by decide))
        have u96 : (I94 v0 24).toInt = (I v0 24).toInt := by rw [f_I94.2.2.1 v0 12 24 kv0 (by decide) (by decide)]
        have u97 : (I94 v0 25).toInt = (I v0 25).toInt := by rw [f_I94.2.2.1 v0 12 25 kv0 (by decide) (by decide)]
        have u98 : (I94 v0 27).toInt = (I v0 27).toInt := by rw [f_I94.2.2.1 v0 12 27 kv0 (by decide) (by decide)]
        first | (have u99 : (I94 v0 26).toInt = ((I v0 26).toInt + (1)) := by (rw [eI94, show jpI I v0 26 ((I v0 26) + (1 : Int32)) v0 26 = ((I v0 26) + (1 : Int32)) from jpI_at] <;> exact (i_add rfl (show (1 : Int32).toInt = 1 from rfl) (by omega) (by omega)))) | skip
        exact ih x93 I94 L w_I94 q_I94   (by omega)  (by omega)
set_option maxHeartbeats 4000000 in
set_option maxRecDepth 100000 in
theorem s_X12_number {Z : jZ} {I : jI} {L : jL} (w_I : WD Z I) (v0 : Nat) (v1 : Int32) (v2 : Int32) (v3 : Int32) (kv0 : jk Z v0 12) (uR : Nat) (huR : jr Z v0 23 = some uR) (kuR : jk Z uR 13) (p0 : 0 ≤ (I v0 26).toInt ∧ (I v0 26).toInt ≤ (I v0 24).toInt ∧ (I v0 26).toInt ≤ (I v0 25).toInt ∧ (I v0 24).toInt ≤ (jlen Z uR : Int) ∧ jlen Z uR ≤ 80) (p1 : 1 ≤ v1.toInt ∧ v1.toInt ≤ 3) {Q : Int32 → jI → jL → Prop} (hQ : ∀ (r : Int32) (I' : jI) (L' : jL), WD Z I' → FR Ws_X12_number Z I Z I' → ((I v0 26).toInt ≤ (I' v0 26).toInt ∧ (I' v0 26).toInt ≤ (I v0 24).toInt ∧ (I' v0 26).toInt ≤ (I v0 25).toInt ∧ (¬ (I v0 27).toInt = -1 → ¬ (I' v0 27).toInt = -1) ∧ (((I' v0 27).toInt = -1 ∧ v2.toInt ≤ r.toInt ∧ r.toInt ≤ v3.toInt) ∨ (¬ (I' v0 27).toInt = -1 ∧ r.toInt = 0))) → Q r I' L') : f_X12_number v0 v1 v2 v3 Z I L Q := by
  unfold f_X12_number
  have q_I : FR Ws_X12_number Z I Z I := FR.rf
  have rv1 := i_rng v1
  have rv2 := i_rng v2
  have rv3 := i_rng v3
  refine s_X12_fine w_I v0 kv0   (fun r100 p101 => ?_)
  have rr100 := i_rng r100
  refine ⟨fun c102 => ?_, fun c102 => ?_⟩
  · skip
    first | (have t103 : ¬ (r100.toInt = (0)) := (not_congr (i_eq rfl (show (0 : Int32).toInt = 0 from rfl))).mp c102) | (have t103 : ¬ (r100.toInt = (0 : Int32).toInt) := (not_congr (i_eq rfl rfl)).mp c102) | skip
    intro x104 ex104
    have rx104 := i_rng x104
    first | (have tx104 : x104.toInt = (I v0 26).toInt := by (rw [ex104]; exact rfl)) | (have tx104 : x104.toInt = (I v0 26).toInt := by rw [ex104])
    have t105 : (0 : Int32).toInt = 0 := rfl
    exact ⟨(x104.toInt + v1.toInt - (I v0 26).toInt).toNat + 1, l_X12_number_L18 w_I v0 v1 v2 v3 kv0 uR huR kuR p0 p1 x104  hQ   _ (0 : Int32) I L w_I q_I   (by omega)  (by omega)⟩
  · skip
    first | (have t106 : r100.toInt = (0) := (i_eq rfl (show (0 : Int32).toInt = 0 from rfl)).mp c102) | (have t106 : r100.toInt = (0 : Int32).toInt := (i_eq rfl rfl).mp c102) | skip
    have t107 : (0 : Int32).toInt = 0 := rfl
    exact hQ (0 : Int32) I L w_I q_I (by omega)
def Ws_X12_readLine : List (Nat × Nat) := [(12, 26), (12, 27), (12, 28)]
set_option maxHeartbeats 4000000 in
set_option maxRecDepth 100000 in
theorem l_X12_readLine_L109 {Z : jZ} {I0 : jI} {Q : Int32 → jI → jL → Prop} (w0 : WD Z I0) (v0 : Nat) (v1 : Int32) (kv0 : jk Z v0 12) (uR : Nat) (huR : jr Z v0 23 = some uR) (kuR : jk Z uR 13) (p0 : 0 ≤ (I0 v0 26).toInt ∧ (I0 v0 26).toInt ≤ (I0 v0 24).toInt ∧ (I0 v0 26).toInt ≤ (I0 v0 25).toInt ∧ (I0 v0 24).toInt ≤ (jlen Z uR : Int) ∧ jlen Z uR ≤ 80) (p1 : 0 ≤ v1.toInt ∧ v1.toInt ≤ 23) (v2 : Int32) (v3 : Int32) (v4 : Int32) (v5 : Int32) (v6 : Int32) (v7 : Int32) (hQ : ∀ (r : Int32) (I' : jI) (L' : jL), WD Z I' → FR Ws_X12_readLine Z I0 Z I' → ((I0 v0 26).toInt ≤ (I' v0 26).toInt ∧ (I' v0 26).toInt ≤ (I0 v0 24).toInt ∧ (I' v0 26).toInt ≤ (I0 v0 25).toInt ∧ (¬ (I0 v0 27).toInt = -1 → ¬ (I' v0 27).toInt = -1) ∧ v1.toInt ≤ r.toInt ∧ r.toInt ≤ 24 ∧ ((I' v0 27).toInt = -1 → v1.toInt < r.toInt)) → Q r I' L') : ∀ (n : Nat) (v8 : Int32) (I : jI) (L : jL), WD Z I → FR Ws_X12_readLine Z I0 Z I →   (0 ≤ v8.toInt ∧ v8.toInt ≤ v7.toInt ∧ 1 ≤ v7.toInt ∧ v1.toInt + v7.toInt ≤ 24 ∧ 1 ≤ v2.toInt ∧ v2.toInt ≤ 30 ∧ 0 ≤ v3.toInt ∧ v3.toInt ≤ 9 ∧ 0 ≤ v4.toInt ∧ v4.toInt ≤ 20 ∧ (I0 v0 26).toInt ≤ (I v0 26).toInt ∧ (I v0 26).toInt ≤ (I0 v0 24).toInt ∧ (I v0 26).toInt ≤ (I0 v0 25).toInt ∧ (I v0 27).toInt = -1 ∧ (I0 v0 27).toInt = -1) → 24 - v8.toInt < (n : Int) → f_X12_readLine_L109  Z Q n v0 v1 v2 v3 v4 v5 v6 v7 v8 I L := by
  intro n
  induction n with
  | zero =>
    intro v8 I L w_I q_I   li  me
    exfalso
    omega
  | succ n ih =>
    intro v8 I L w_I q_I   li  me
    unfold f_X12_readLine_L109
    have rv8 := i_rng v8
    have rv2 := i_rng v2
    have rv3 := i_rng v3
    have rv4 := i_rng v4
    have rv5 := i_rng v5
    have rv6 := i_rng v6
    have rv7 := i_rng v7
    have rv1 := i_rng v1
    refine ⟨fun c1 => ?_, fun c1 => ?_⟩
    · skip
      first | (have t2 : v7.toInt ≤ v8.toInt := (i_le rfl rfl).mp c1) | (have t2 : v7.toInt ≤ v8.toInt := (i_le rfl rfl).mp c1) | skip
      try (have t3 : (v1 + v7).toInt = (v1.toInt + v7.toInt) := (i_add rfl rfl (by omega) (by omega)))
      exact hQ (v1 + v7) I L w_I q_I (by omega)
    · skip
      first | (have t4 : ¬ (v7.toInt ≤ v8.toInt) := (not_congr (i_le rfl rfl)).mp c1) | (have t4 : ¬ (v7.toInt ≤ v8.toInt) := (not_congr (i_le rfl rfl)).mp c1) | skip
      intro x5 ex5
      have rx5 := i_rng x5
      first | (have tx5 : x5.toInt = ((5) * (v1.toInt + v8.toInt)) := by (rw [ex5]; exact (i_mul (show (5 : Int32).toInt = 5 from rfl) (i_add rfl rfl (by omega) (by omega)) (by omega) (by omega)))) | (have tx5 : x5.toInt = ((5 : Int32) * (v1 + v8)).toInt := by rw [ex5])
      intro b6 eb6
      obtain ⟨x7, ex7, kb6, lb6⟩ := sh_f w_I.1 kv0 (j := 28) (k := 14) (m := 120) rfl
      cases eb6.symm.trans ex7
      have o8 : vp_in x5 120 := vi_of rfl (by omega) (by omega)
      refine ⟨o8, ?_⟩
      intro I9 eI9
      have t10 := i_nat (x := x5) rfl (by omega)
      have w_I9 : WD Z I9 := by rw [eI9]; exact WD_putA w_I 12 28 kv0 eb6 kb6 rfl rfl (by decide) (by refine ⟨?_, ?_, ?_⟩ <;> intros <;> (constructor <;> omega))
      have f_I9 : FR [(12, 28)] Z I Z I9 := by rw [eI9]; exact FR_upA w_I.2.1 kv0 eb6 kb6 rfl rfl List.mem_cons_self
      have q_I9 : FR Ws_X12_readLine Z I0 Z I9 := q_I.trans w0.1 w0.2.1 (f_I9.mono (by decide))
      have u11 : (I9 v0 24).toInt = (I v0 24).toInt := by rw [f_I9.2.2.1 v0 12 24 kv0 (by decide) (by decide)]
      have u12 : (I9 v0 25).toInt = (I v0 25).toInt := by rw [f_I9.2.2.1 v0 12 25 kv0 (by decide) (by decide)]
      have u13 : (I9 v0 26).toInt = (I v0 26).toInt := by rw [f_I9.2.2.1 v0 12 26 kv0 (by decide) (by decide)]
      have u14 : (I9 v0 27).toInt = (I v0 27).toInt := by rw [f_I9.2.2.1 v0 12 27 kv0 (by decide) (by decide)]
      intro b15 eb15
      obtain rfl : b6 = b15 := Option.some.inj (eb6.symm.trans eb15)
      have o16 : vp_in (x5 + (1 : Int32)) 120 := vi_of (i_add rfl (show (1 : Int32).toInt = 1 from rfl) (by omega) (by omega)) (by omega) (by omega)
      refine ⟨o16, ?_⟩
      intro I17 eI17
      have t18 := i_nat (x := (x5 + (1 : Int32))) (i_add rfl (show (1 : Int32).toInt = 1 from rfl) (by omega) (by omega)) (by omega)
      have w_I17 : WD Z I17 := by rw [eI17]; exact WD_putA w_I9 12 28 kv0 eb6 kb6 rfl rfl (by decide) (by refine ⟨?_, ?_, ?_⟩ <;> intros <;> (constructor <;> omega))
      have f_I17 : FR [(12, 28)] Z I9 Z I17 := by rw [eI17]; exact FR_upA w_I9.2.1 kv0 eb6 kb6 rfl rfl List.mem_cons_self
      have q_I17 : FR Ws_X12_readLine Z I0 Z I17 := q_I9.trans w0.1 w0.2.1 (f_I17.mono (by decide))
      have u19 : (I17 v0 24).toInt = (I9 v0 24).toInt := by rw [f_I17.2.2.1 v0 12 24 kv0 (by decide) (by decide)]
      have u20 : (I17 v0 25).toInt = (I9 v0 25).toInt := by rw [f_I17.2.2.1 v0 12 25 kv0 (by decide) (by decide)]
      have u21 : (I17 v0 26).toInt = (I9 v0 26).toInt := by rw [f_I17.2.2.1 v0 12 26 kv0 (by decide) (by decide)]
      have u22 : (I17 v0 27).toInt = (I9 v0 27).toInt := by rw [f_I17.2.2.1 v0 12 27 kv0 (by decide) (by decide)]
      intro b23 eb23
      obtain rfl : b6 = b23 := Option.some.inj (eb6.symm.trans eb23)
      have o24 : vp_in (x5 + (2 : Int32)) 120 := vi_of (i_add rfl (show (2 : Int32).toInt = 2 from rfl) (by omega) (by omega)) (by omega) (by omega)
      refine ⟨o24, ?_⟩
      intro I25 eI25
      have t26 := i_nat (x := (x5 + (2 : Int32))) (i_add rfl (show (2 : Int32).toInt = 2 from rfl) (by omega) (by omega)) (by omega)
      have w_I25 : WD Z I25 := by rw [eI25]; exact WD_putA w_I17 12 28 kv0 eb6 kb6 rfl rfl (by decide) (by refine ⟨?_, ?_, ?_⟩ <;> intros <;> (constructor <;> omega))
      have f_I25 : FR [(12, 28)] Z I17 Z I25 := by rw [eI25]; exact FR_upA w_I17.2.1 kv0 eb6 kb6 rfl rfl List.mem_cons_self
      have q_I25 : FR Ws_X12_readLine Z I0 Z I25 := q_I17.trans w0.1 w0.2.1 (f_I25.mono (by decide))
      have u27 : (I25 v0 24).toInt = (I17 v0 24).toInt := by rw [f_I25.2.2.1 v0 12 24 kv0 (by decide) (by decide)]
      have u28 : (I25 v0 25).toInt = (I17 v0 25).toInt := by rw [f_I25.2.2.1 v0 12 25 kv0 (by decide) (by decide)]
      have u29 : (I25 v0 26).toInt = (I17 v0 26).toInt := by rw [f_I25.2.2.1 v0 12 26 kv0 (by decide) (by decide)]
      have u30 : (I25 v0 27).toInt = (I17 v0 27).toInt := by rw [f_I25.2.2.1 v0 12 27 kv0 (by decide) (by decide)]
      intro b31 eb31
      obtain rfl : b6 = b31 := Option.some.inj (eb6.symm.trans eb31)
      have o32 : vp_in (x5 + (3 : Int32)) 120 := vi_of (i_add rfl (show (3 : Int32).toInt = 3 from rfl) (by omega) (by omega)) (by omega) (by omega)
      refine ⟨o32, ?_⟩
      intro I33 eI33
      have t34 := i_nat (x := (x5 + (3 : Int32))) (i_add rfl (show (3 : Int32).toInt = 3 from rfl) (by omega) (by omega)) (by omega)
      have w_I33 : WD Z I33 := by rw [eI33]; exact WD_putA w_I25 12 28 kv0 eb6 kb6 rfl rfl (by decide) (by refine ⟨?_, ?_, ?_⟩ <;> intros <;> (constructor <;> omega))
      have f_I33 : FR [(12, 28)] Z I25 Z I33 := by rw [eI33]; exact FR_upA w_I25.2.1 kv0 eb6 kb6 rfl rfl List.mem_cons_self
      have q_I33 : FR Ws_X12_readLine Z I0 Z I33 := q_I25.trans w0.1 w0.2.1 (f_I33.mono (by decide))
      have u35 : (I33 v0 24).toInt = (I25 v0 24).toInt := by rw [f_I33.2.2.1 v0 12 24 kv0 (by decide) (by decide)]
      have u36 : (I33 v0 25).toInt = (I25 v0 25).toInt := by rw [f_I33.2.2.1 v0 12 25 kv0 (by decide) (by decide)]
      have u37 : (I33 v0 26).toInt = (I25 v0 26).toInt := by rw [f_I33.2.2.1 v0 12 26 kv0 (by decide) (by decide)]
      have u38 : (I33 v0 27).toInt = (I25 v0 27).toInt := by rw [f_I33.2.2.1 v0 12 27 kv0 (by decide) (by decide)]
      intro b39 eb39
      obtain rfl : b6 = b39 := Option.some.inj (eb6.symm.trans eb39)
      have o40 : vp_in (x5 + (4 : Int32)) 120 := vi_of (i_add rfl (show (4 : Int32).toInt = 4 from rfl) (by omega) (by omega)) (by omega) (by omega)
      refine ⟨o40, ?_⟩
      intro I41 eI41
      have t42 := i_nat (x := (x5 + (4 : Int32))) (i_add rfl (show (4 : Int32).toInt = 4 from rfl) (by omega) (by omega)) (by omega)
      have w_I41 : WD Z I41 := by rw [eI41]; exact WD_putA w_I33 12 28 kv0 eb6 kb6 rfl rfl (by decide) (by refine ⟨?_, ?_, ?_⟩ <;> intros <;> (constructor <;> omega))
      have f_I41 : FR [(12, 28)] Z I33 Z I41 := by rw [eI41]; exact FR_upA w_I33.2.1 kv0 eb6 kb6 rfl rfl List.mem_cons_self
      have q_I41 : FR Ws_X12_readLine Z I0 Z I41 := q_I33.trans w0.1 w0.2.1 (f_I41.mono (by decide))
      have u43 : (I41 v0 24).toInt = (I33 v0 24).toInt := by rw [f_I41.2.2.1 v0 12 24 kv0 (by decide) (by decide)]
      have u44 : (I41 v0 25).toInt = (I33 v0 25).toInt := by rw [f_I41.2.2.1 v0 12 25 kv0 (by decide) (by decide)]
      have u45 : (I41 v0 26).toInt = (I33 v0 26).toInt := by rw [f_I41.2.2.1 v0 12 26 kv0 (by decide) (by decide)]
      have u46 : (I41 v0 27).toInt = (I33 v0 27).toInt := by rw [f_I41.2.2.1 v0 12 27 kv0 (by decide) (by decide)]
      intro x47 ex47
      have rx47 := i_rng x47
      first | (have tx47 : x47.toInt = v8.toInt + (1) := by (rw [ex47]; exact (i_add rfl (show (1 : Int32).toInt = 1 from rfl) (by omega) (by omega)))) | skip
      exact ih x47 I41 L w_I41 q_I41   (by omega)  (by omega)
set_option maxHeartbeats 4000000 in
set_option maxRecDepth 100000 in
theorem s_X12_readLine {Z : jZ} {I : jI} {L : jL} (w_I : WD Z I) (v0 : Nat) (v1 : Int32) (kv0 : jk Z v0 12) (uR : Nat) (huR : jr Z v0 23 = some uR) (kuR : jk Z uR 13) (p0 : 0 ≤ (I v0 26).toInt ∧ (I v0 26).toInt ≤ (I v0 24).toInt ∧ (I v0 26).toInt ≤ (I v0 25).toInt ∧ (I v0 24).toInt ≤ (jlen Z uR : Int) ∧ jlen Z uR ≤ 80) (p1 : 0 ≤ v1.toInt ∧ v1.toInt ≤ 23) {Q : Int32 → jI → jL → Prop} (hQ : ∀ (r : Int32) (I' : jI) (L' : jL), WD Z I' → FR Ws_X12_readLine Z I Z I' → ((I v0 26).toInt ≤ (I' v0 26).toInt ∧ (I' v0 26).toInt ≤ (I v0 24).toInt ∧ (I' v0 26).toInt ≤ (I v0 25).toInt ∧ (¬ (I v0 27).toInt = -1 → ¬ (I' v0 27).toInt = -1) ∧ v1.toInt ≤ r.toInt ∧ r.toInt ≤ 24 ∧ ((I' v0 27).toInt = -1 → v1.toInt < r.toInt)) → Q r I' L') : f_X12_readLine v0 v1 Z I L Q := by
  unfold f_X12_readLine
  have q_I : FR Ws_X12_readLine Z I Z I := FR.rf
  have rv1 := i_rng v1
  have t48 : (2 : Int32).toInt = 2 := rfl
  have t49 : (1 : Int32).toInt = 1 := rfl
  have t50 : (30 : Int32).toInt = 30 := rfl
  refine s_X12_number w_I v0 (2 : Int32) (1 : Int32) (30 : Int32) kv0 uR huR kuR (by omega) (by omega) (fun r51 I53 L54 w_I53 f_I53 p52 => ?_)
  have q_I53 : FR Ws_X12_readLine Z I Z I53 := q_I.trans w_I.1 w_I.2.1 (f_I53.mono (by decide))
  have u55 : (I53 v0 24).toInt = (I v0 24).toInt := by rw [f_I53.2.2.1 v0 12 24 kv0 (by decide) (by decide)]
  have u56 : (I53 v0 25).toInt = (I v0 25).toInt := by rw [f_I53.2.2.1 v0 12 25 kv0 (by decide) (by decide)]
  have rr51 := i_rng r51
  have t57 : (44 : Int32).toInt = 44 := rfl
  refine s_X12_need w_I53 v0 (44 : Int32) kv0 uR huR kuR (by omega) (by omega) (fun  I59 L60 w_I59 f_I59 p58 => ?_)
  have q_I59 : FR Ws_X12_readLine Z I Z I59 := q_I53.trans w_I.1 w_I.2.1 (f_I59.mono (by decide))
  have u61 : (I59 v0 24).toInt = (I53 v0 24).toInt := by rw [f_I59.2.2.1 v0 12 24 kv0 (by decide) (by decide)]
  have u62 : (I59 v0 25).toInt = (I53 v0 25).toInt := by rw [f_I59.2.2.1 v0 12 25 kv0 (by decide) (by decide)]
  have t63 : (2 : Int32).toInt = 2 := rfl
  have t64 : (0 : Int32).toInt = 0 := rfl
  have t65 : (9 : Int32).toInt = 9 := rfl
  refine s_X12_number w_I59 v0 (2 : Int32) (0 : Int32) (9 : Int32) kv0 uR huR kuR (by omega) (by omega) (fun r66 I68 L69 w_I68 f_I68 p67 => ?_)
  have q_I68 : FR Ws_X12_readLine Z I Z I68 := q_I59.trans w_I.1 w_I.2.1 (f_I68.mono (by decide))
  have u70 : (I68 v0 24).toInt = (I59 v0 24).toInt := by rw [f_I68.2.2.1 v0 12 24 kv0 (by decide) (by decide)]
  have u71 : (I68 v0 25).toInt = (I59 v0 25).toInt := by rw [f_I68.2.2.1 v0 12 25 kv0 (by decide) (by decide)]
  have rr66 := i_rng r66
  have t72 : (44 : Int32).toInt = 44 := rfl
  refine s_X12_need w_I68 v0 (44 : Int32) kv0 uR huR kuR (by omega) (by omega) (fun  I74 L75 w_I74 f_I74 p73 => ?_)
  have q_I74 : FR Ws_X12_readLine Z I Z I74 := q_I68.trans w_I.1 w_I.2.1 (f_I74.mono (by decide))
  have u76 : (I74 v0 24).toInt = (I68 v0 24).toInt := by rw [f_I74.2.2.1 v0 12 24 kv0 (by decide) (by decide)]
  have u77 : (I74 v0 25).toInt = (I68 v0 25).toInt := by rw [f_I74.2.2.1 v0 12 25 kv0 (by decide) (by decide)]
  have t78 : (2 : Int32).toInt = 2 := rfl
  have t79 : (0 : Int32).toInt = 0 := rfl
  have t80 : (20 : Int32).toInt = 20 := rfl
  refine s_X12_number w_I74 v0 (2 : Int32) (0 : Int32) (20 : Int32) kv0 uR huR kuR (by omega) (by omega) (fun r81 I83 L84 w_I83 f_I83 p82 => ?_)
  have q_I83 : FR Ws_X12_readLine Z I Z I83 := q_I74.trans w_I.1 w_I.2.1 (f_I83.mono (by decide))
  have u85 : (I83 v0 24).toInt = (I74 v0 24).toInt := by rw [f_I83.2.2.1 v0 12 24 kv0 (by decide) (by decide)]
  have u86 : (I83 v0 25).toInt = (I74 v0 25).toInt := by rw [f_I83.2.2.1 v0 12 25 kv0 (by decide) (by decide)]
  have rr81 := i_rng r81
  have t87 : (64 : Int32).toInt = 64 := rfl
  refine s_X12_need w_I83 v0 (64 : Int32) kv0 uR huR kuR (by omega) (by omega) (fun  I89 L90 w_I89 f_I89 p88 => ?_)
  have q_I89 : FR Ws_X12_readLine Z I Z I89 := q_I83.trans w_I.1 w_I.2.1 (f_I89.mono (by decide))
  have u91 : (I89 v0 24).toInt = (I83 v0 24).toInt := by rw [f_I89.2.2.1 v0 12 24 kv0 (by decide) (by decide)]
  have u92 : (I89 v0 25).toInt = (I83 v0 25).toInt := by rw [f_I89.2.2.1 v0 12 25 kv0 (by decide) (by decide)]
  have t93 : (1 : Int32).toInt = 1 := rfl
  have t94 : (0 : Int32).toInt = 0 := rfl
  have t95 : (7 : Int32).toInt = 7 := rfl
  refine s_X12_number w_I89 v0 (1 : Int32) (0 : Int32) (7 : Int32) kv0 uR huR kuR (by omega) (by omega) (fun r96 I98 L99 w_I98 f_I98 p97 => ?_)
  have q_I98 : FR Ws_X12_readLine Z I Z I98 := q_I89.trans w_I.1 w_I.2.1 (f_I98.mono (by decide))
  have u100 : (I98 v0 24).toInt = (I89 v0 24).toInt := by rw [f_I98.2.2.1 v0 12 24 kv0 (by decide) (by decide)]
  have u101 : (I98 v0 25).toInt = (I89 v0 25).toInt := by rw [f_I98.2.2.1 v0 12 25 kv0 (by decide) (by decide)]
  have rr96 := i_rng r96
  have t102 : (119 : Int32).toInt = 119 := rfl
  refine s_X12_passes w_I98 v0 (119 : Int32) kv0 uR huR kuR (by omega) (by omega) (fun r103 I105 L106 w_I105 f_I105 p104 => ?_)
  have q_I105 : FR Ws_X12_readLine Z I Z I105 := q_I98.trans w_I.1 w_I.2.1 (f_I105.mono (by decide))
  have u107 : (I105 v0 24).toInt = (I98 v0 24).toInt := by rw [f_I105.2.2.1 v0 12 24 kv0 (by decide) (by decide)]
  have u108 : (I105 v0 25).toInt = (I98 v0 25).toInt := by rw [f_I105.2.2.1 v0 12 25 kv0 (by decide) (by decide)]
  have u109 : (I105 v0 27).toInt = (I98 v0 27).toInt := by rw [f_I105.2.2.1 v0 12 27 kv0 (by decide) (by decide)]
  have rr103 := i_rng r103
  refine ⟨fun c110 => ?_, fun c110 => ?_⟩
  · skip
    first | (have t111 : r103.toInt = (0) := (i_eq rfl (show (0 : Int32).toInt = 0 from rfl)).mp c110) | (have t111 : r103.toInt = (0 : Int32).toInt := (i_eq rfl rfl).mp c110) | skip
    unfold f_X12_readLine_b70
    have t112 : (42 : Int32).toInt = 42 := rfl
    refine s_X12_passes w_I105 v0 (42 : Int32) kv0 uR huR kuR (by omega) (by omega) (fun r113 I115 L116 w_I115 f_I115 p114 => ?_)
    have q_I115 : FR Ws_X12_readLine Z I Z I115 := q_I105.trans w_I.1 w_I.2.1 (f_I115.mono (by decide))
    have u117 : (I115 v0 24).toInt = (I105 v0 24).toInt := by rw [f_I115.2.2.1 v0 12 24 kv0 (by decide) (by decide)]
    have u118 : (I115 v0 25).toInt = (I105 v0 25).toInt := by rw [f_I115.2.2.1 v0 12 25 kv0 (by decide) (by decide)]
    have u119 : (I115 v0 27).toInt = (I105 v0 27).toInt := by rw [f_I115.2.2.1 v0 12 27 kv0 (by decide) (by decide)]
    have rr113 := i_rng r113
    refine ⟨fun c120 => ?_, fun c120 => ?_⟩
    · skip
      first | (have t121 : r113.toInt = (0) := (i_eq rfl (show (0 : Int32).toInt = 0 from rfl)).mp c120) | (have t121 : r113.toInt = (0 : Int32).toInt := (i_eq rfl rfl).mp c120) | skip
      unfold f_X12_readLine_b95
      refine s_X12_fine w_I115 v0 kv0   (fun r122 p123 => ?_)
      have rr122 := i_rng r122
      refine ⟨fun c124 => ?_, fun c124 => ?_⟩
      · skip
        first | (have t125 : ¬ (r122.toInt = (0)) := (not_congr (i_eq rfl (show (0 : Int32).toInt = 0 from rfl))).mp c124) | (have t125 : ¬ (r122.toInt = (0 : Int32).toInt) := (not_congr (i_eq rfl rfl)).mp c124) | skip
        have t126 : (0 : Int32).toInt = 0 := rfl
        have t127 : (1 : Int32).toInt = 1 := rfl
        have t128 : (0 : Int32).toInt = 0 := rfl
        exact ⟨(24 - (0 : Int32).toInt).toNat + 1, l_X12_readLine_L109 w_I v0 v1 kv0 uR huR kuR p0 p1 r51 r66 r81 r96 (0 : Int32) (1 : Int32)  hQ   _ (0 : Int32) I115 L116 w_I115 q_I115   (by omega)  (by omega)⟩
      · skip
        first | (have t129 : r122.toInt = (0) := (i_eq rfl (show (0 : Int32).toInt = 0 from rfl)).mp c124) | (have t129 : r122.toInt = (0 : Int32).toInt := (i_eq rfl rfl).mp c124) | skip
        exact hQ v1 I115 L116 w_I115 q_I115 (by omega)
    · skip
      first | (have t130 : ¬ (r113.toInt = (0)) := (not_congr (i_eq rfl (show (0 : Int32).toInt = 0 from rfl))).mp c120) | (have t130 : ¬ (r113.toInt = (0 : Int32).toInt) := (not_congr (i_eq rfl rfl)).mp c120) | skip
      have t131 : (2 : Int32).toInt = 2 := rfl
      have t132 : (1 : Int32).toInt = 1 := rfl
      try (have t133 : ((24 : Int32) - v1).toInt = ((24) - v1.toInt) := (i_sub (show (24 : Int32).toInt = 24 from rfl) rfl (by omega) (by omega)))
      refine s_X12_number w_I115 v0 (2 : Int32) (1 : Int32) ((24 : Int32) - v1) kv0 uR huR kuR (by omega) (by omega) (fun r134 I136 L137 w_I136 f_I136 p135 => ?_)
      have q_I136 : FR Ws_X12_readLine Z I Z I136 := q_I115.trans w_I.1 w_I.2.1 (f_I136.mono (by decide))
      have u138 : (I136 v0 24).toInt = (I115 v0 24).toInt := by rw [f_I136.2.2.1 v0 12 24 kv0 (by decide) (by decide)]
      have u139 : (I136 v0 25).toInt = (I115 v0 25).toInt := by rw [f_I136.2.2.1 v0 12 25 kv0 (by decide) (by decide)]
      have rr134 := i_rng r134
      unfold f_X12_readLine_b95
      refine s_X12_fine w_I136 v0 kv0   (fun r140 p141 => ?_)
      have rr140 := i_rng r140
      refine ⟨fun c142 => ?_, fun c142 => ?_⟩
      · skip
        first | (have t143 : ¬ (r140.toInt = (0)) := (not_congr (i_eq rfl (show (0 : Int32).toInt = 0 from rfl))).mp c142) | (have t143 : ¬ (r140.toInt = (0 : Int32).toInt) := (not_congr (i_eq rfl rfl)).mp c142) | skip
        have t144 : (0 : Int32).toInt = 0 := rfl
        have t145 : (0 : Int32).toInt = 0 := rfl
        exact ⟨(24 - (0 : Int32).toInt).toNat + 1, l_X12_readLine_L109 w_I v0 v1 kv0 uR huR kuR p0 p1 r51 r66 r81 r96 (0 : Int32) r134  hQ   _ (0 : Int32) I136 L137 w_I136 q_I136   (by omega)  (by omega)⟩
      · skip
        first | (have t146 : r140.toInt = (0) := (i_eq rfl (show (0 : Int32).toInt = 0 from rfl)).mp c142) | (have t146 : r140.toInt = (0 : Int32).toInt := (i_eq rfl rfl).mp c142) | skip
        exact hQ v1 I136 L137 w_I136 q_I136 (by omega)
  · skip
    first | (have t147 : ¬ (r103.toInt = (0)) := (not_congr (i_eq rfl (show (0 : Int32).toInt = 0 from rfl))).mp c110) | (have t147 : ¬ (r103.toInt = (0 : Int32).toInt) := (not_congr (i_eq rfl rfl)).mp c110) | skip
    unfold f_X12_readLine_b70
    have t148 : (42 : Int32).toInt = 42 := rfl
    refine s_X12_passes w_I105 v0 (42 : Int32) kv0 uR huR kuR (by omega) (by omega) (fun r149 I151 L152 w_I151 f_I151 p150 => ?_)
    have q_I151 : FR Ws_X12_readLine Z I Z I151 := q_I105.trans w_I.1 w_I.2.1 (f_I151.mono (by decide))
    have u153 : (I151 v0 24).toInt = (I105 v0 24).toInt := by rw [f_I151.2.2.1 v0 12 24 kv0 (by decide) (by decide)]
    have u154 : (I151 v0 25).toInt = (I105 v0 25).toInt := by rw [f_I151.2.2.1 v0 12 25 kv0 (by decide) (by decide)]
    have u155 : (I151 v0 27).toInt = (I105 v0 27).toInt := by rw [f_I151.2.2.1 v0 12 27 kv0 (by decide) (by decide)]
    have rr149 := i_rng r149
    refine ⟨fun c156 => ?_, fun c156 => ?_⟩
    · skip
      first | (have t157 : r149.toInt = (0) := (i_eq rfl (show (0 : Int32).toInt = 0 from rfl)).mp c156) | (have t157 : r149.toInt = (0 : Int32).toInt := (i_eq rfl rfl).mp c156) | skip
      unfold f_X12_readLine_b95
      refine s_X12_fine w_I151 v0 kv0   (fun r158 p159 => ?_)
      have rr158 := i_rng r158
      refine ⟨fun c160 => ?_, fun c160 => ?_⟩
      · skip
        first | (have t161 : ¬ (r158.toInt = (0)) := (not_congr (i_eq rfl (show (0 : Int32).toInt = 0 from rfl))).mp c160) | (have t161 : ¬ (r158.toInt = (0 : Int32).toInt) := (not_congr (i_eq rfl rfl)).mp c160) | skip
        have t162 : (1 : Int32).toInt = 1 := rfl
        have t163 : (1 : Int32).toInt = 1 := rfl
        have t164 : (0 : Int32).toInt = 0 := rfl
        exact ⟨(24 - (0 : Int32).toInt).toNat + 1, l_X12_readLine_L109 w_I v0 v1 kv0 uR huR kuR p0 p1 r51 r66 r81 r96 (1 : Int32) (1 : Int32)  hQ   _ (0 : Int32) I151 L152 w_I151 q_I151   (by omega)  (by omega)⟩
      · skip
        first | (have t165 : r158.toInt = (0) := (i_eq rfl (show (0 : Int32).toInt = 0 from rfl)).mp c160) | (have t165 : r158.toInt = (0 : Int32).toInt := (i_eq rfl rfl).mp c160) | skip
        exact hQ v1 I151 L152 w_I151 q_I151 (by omega)
    · skip
      first | (have t166 : ¬ (r149.toInt = (0)) := (not_congr (i_eq rfl (show (0 : Int32).toInt = 0 from rfl))).mp c156) | (have t166 : ¬ (r149.toInt = (0 : Int32).toInt) := (not_congr (i_eq rfl rfl)).mp c156) | skip
      have t167 : (2 : Int32).toInt = 2 := rfl
      have t168 : (1 : Int32).toInt = 1 := rfl
      try (have t169 : ((24 : Int32) - v1).toInt = ((24) - v1.toInt) := (i_sub (show (24 : Int32).toInt = 24 from rfl) rfl (by omega) (by omega)))
      refine s_X12_number w_I151 v0 (2 : Int32) (1 : Int32) ((24 : Int32) - v1) kv0 uR huR kuR (by omega) (by omega) (fun r170 I172 L173 w_I172 f_I172 p171 => ?_)
      have q_I172 : FR Ws_X12_readLine Z I Z I172 := q_I151.trans w_I.1 w_I.2.1 (f_I172.mono (by decide))
      have u174 : (I172 v0 24).toInt = (I151 v0 24).toInt := by rw [f_I172.2.2.1 v0 12 24 kv0 (by decide) (by decide)]
      have u175 : (I172 v0 25).toInt = (I151 v0 25).toInt := by rw [f_I172.2.2.1 v0 12 25 kv0 (by decide) (by decide)]
      have rr170 := i_rng r170
      unfold f_X12_readLine_b95
      refine s_X12_fine w_I172 v0 kv0   (fun r176 p177 => ?_)
      have rr176 := i_rng r176
      refine ⟨fun c178 => ?_, fun c178 => ?_⟩
      · skip
        first | (have t179 : ¬ (r176.toInt = (0)) := (not_congr (i_eq rfl (show (0 : Int32).toInt = 0 from rfl))).mp c178) | (have t179 : ¬ (r176.toInt = (0 : Int32).toInt) := (not_congr (i_eq rfl rfl)).mp c178) | skip
        have t180 : (1 : Int32).toInt = 1 := rfl
        have t181 : (0 : Int32).toInt = 0 := rfl
        exact ⟨(24 - (0 : Int32).toInt).toNat + 1, l_X12_readLine_L109 w_I v0 v1 kv0 uR huR kuR p0 p1 r51 r66 r81 r96 (1 : Int32) r170  hQ   _ (0 : Int32) I172 L173 w_I172 q_I172   (by omega)  (by omega)⟩
      · skip
        first | (have t182 : r176.toInt = (0) := (i_eq rfl (show (0 : Int32).toInt = 0 from rfl)).mp c178) | (have t182 : r176.toInt = (0 : Int32).toInt := (i_eq rfl rfl).mp c178) | skip
        exact hQ v1 I172 L173 w_I172 q_I172 (by omega)
set_option maxHeartbeats 4000000 in
set_option maxRecDepth 100000 in
theorem s_X12_letter {Z : jZ} {I : jI} {L : jL} (w_I : WD Z I) (v0 : Nat) (v1 : Int32) (kv0 : jk Z v0 12) (p0 : 0 ≤ (I v0 31).toInt ∧ (I v0 31).toInt ≤ 23 ∧ (I v0 32).toInt ≤ 23) {Q : Int32 → jI → jL → Prop} (hQ : ∀ (r : Int32), Q r I L) : f_X12_letter v0 v1 Z I L Q := by
  unfold f_X12_letter
  have rv1 := i_rng v1
  refine ⟨fun c1 => ?_, fun c1 => ?_⟩
  · skip
    first | (have t2 : v1.toInt = (97) := (i_eq rfl (show (97 : Int32).toInt = 97 from rfl)).mp c1) | (have t2 : v1.toInt = (97 : Int32).toInt := (i_eq rfl rfl).mp c1) | skip
    intro b3 eb3
    obtain ⟨x4, ex4, kb3, lb3⟩ := sh_f w_I.1 kv0 (j := 3) (k := 14) (m := 24) rfl
    cases eb3.symm.trans ex4
    have o5 : vp_in (I v0 31) 24 := vi_of rfl (by omega) (by omega)
    refine ⟨o5, ?_⟩
    have t6 : 0 ≤ (I b3 (I v0 31).toNatClampNeg).toInt ∧ (I b3 (I v0 31).toNatClampNeg).toInt ≤ 20 := w_I.arr 12 3 kv0 eb3 kb3 rfl rfl _
    exact hQ (I b3 (I v0 31).toNatClampNeg) 
  · skip
    first | (have t7 : ¬ (v1.toInt = (97)) := (not_congr (i_eq rfl (show (97 : Int32).toInt = 97 from rfl))).mp c1) | (have t7 : ¬ (v1.toInt = (97 : Int32).toInt) := (not_congr (i_eq rfl rfl)).mp c1) | skip
    refine ⟨fun c8 => ?_, fun c8 => ?_⟩
    · skip
      first | (have t9 : v1.toInt = (108) := (i_eq rfl (show (108 : Int32).toInt = 108 from rfl)).mp c8) | (have t9 : v1.toInt = (108 : Int32).toInt := (i_eq rfl rfl).mp c8) | skip
      exact hQ (I v0 33) 
    · skip
      first | (have t10 : ¬ (v1.toInt = (108)) := (not_congr (i_eq rfl (show (108 : Int32).toInt = 108 from rfl))).mp c8) | (have t10 : ¬ (v1.toInt = (108 : Int32).toInt) := (not_congr (i_eq rfl rfl)).mp c8) | skip
      refine ⟨fun c11 => ?_, fun c11 => ?_⟩
      · skip
        first | (have t12 : v1.toInt = (114) := (i_eq rfl (show (114 : Int32).toInt = 114 from rfl)).mp c11) | (have t12 : v1.toInt = (114 : Int32).toInt := (i_eq rfl rfl).mp c11) | skip
        intro b13 eb13
        obtain ⟨x14, ex14, kb13, lb13⟩ := sh_f w_I.1 kv0 (j := 1) (k := 14) (m := 24) rfl
        cases eb13.symm.trans ex14
        have o15 : vp_in (I v0 31) 24 := vi_of rfl (by omega) (by omega)
        refine ⟨o15, ?_⟩
        have t16 : 0 ≤ (I b13 (I v0 31).toNatClampNeg).toInt ∧ (I b13 (I v0 31).toNatClampNeg).toInt ≤ 30 := w_I.arr 12 1 kv0 eb13 kb13 rfl rfl _
        exact hQ (I b13 (I v0 31).toNatClampNeg) 
      · skip
        first | (have t17 : ¬ (v1.toInt = (114)) := (not_congr (i_eq rfl (show (114 : Int32).toInt = 114 from rfl))).mp c11) | (have t17 : ¬ (v1.toInt = (114 : Int32).toInt) := (not_congr (i_eq rfl rfl)).mp c11) | skip
        refine ⟨fun c18 => ?_, fun c18 => ?_⟩
        · skip
          first | (have t19 : v1.toInt = (115) := (i_eq rfl (show (115 : Int32).toInt = 115 from rfl)).mp c18) | (have t19 : v1.toInt = (115 : Int32).toInt := (i_eq rfl rfl).mp c18) | skip
          intro b20 eb20
          obtain ⟨x21, ex21, kb20, lb20⟩ := sh_f w_I.1 kv0 (j := 2) (k := 14) (m := 24) rfl
          cases eb20.symm.trans ex21
          have o22 : vp_in (I v0 31) 24 := vi_of rfl (by omega) (by omega)
          refine ⟨o22, ?_⟩
          have t23 : 0 ≤ (I b20 (I v0 31).toNatClampNeg).toInt ∧ (I b20 (I v0 31).toNatClampNeg).toInt ≤ 9 := w_I.arr 12 2 kv0 eb20 kb20 rfl rfl _
          exact hQ (I b20 (I v0 31).toNatClampNeg) 
        · skip
          first | (have t24 : ¬ (v1.toInt = (115)) := (not_congr (i_eq rfl (show (115 : Int32).toInt = 115 from rfl))).mp c18) | (have t24 : ¬ (v1.toInt = (115 : Int32).toInt) := (not_congr (i_eq rfl rfl)).mp c18) | skip
          refine ⟨fun c25 => ?_, fun c25 => ?_⟩
          · skip
            first | (have t26 : v1.toInt = (119) := (i_eq rfl (show (119 : Int32).toInt = 119 from rfl)).mp c25) | (have t26 : v1.toInt = (119 : Int32).toInt := (i_eq rfl rfl).mp c25) | skip
            intro b27 eb27
            obtain ⟨x28, ex28, kb27, lb27⟩ := sh_f w_I.1 kv0 (j := 4) (k := 16) (m := 24) rfl
            cases eb27.symm.trans ex28
            have o29 : vp_in (I v0 31) 24 := vi_of rfl (by omega) (by omega)
            refine ⟨o29, ?_⟩
            refine ⟨fun c30 => ?_, fun c30 => ?_⟩
            · skip
              first | (have t31 : (I b27 (I v0 31).toNatClampNeg).toInt = (0) := (i_eq rfl (show (0 : Int32).toInt = 0 from rfl)).mp c30) | (have t31 : (I b27 (I v0 31).toNatClampNeg).toInt = (0 : Int32).toInt := (i_eq rfl rfl).mp c30) | skip
              have t32 : (0 : Int32).toInt = 0 := rfl
              exact hQ (0 : Int32) 
            · skip
              first | (have t33 : ¬ ((I b27 (I v0 31).toNatClampNeg).toInt = (0)) := (not_congr (i_eq rfl (show (0 : Int32).toInt = 0 from rfl))).mp c30) | (have t33 : ¬ ((I b27 (I v0 31).toNatClampNeg).toInt = (0 : Int32).toInt) := (not_congr (i_eq rfl rfl)).mp c30) | skip
              have t34 : (1 : Int32).toInt = 1 := rfl
              exact hQ (1 : Int32) 
          · skip
            first | (have t35 : ¬ (v1.toInt = (119)) := (not_congr (i_eq rfl (show (119 : Int32).toInt = 119 from rfl))).mp c25) | (have t35 : ¬ (v1.toInt = (119 : Int32).toInt) := (not_congr (i_eq rfl rfl)).mp c25) | skip
            refine ⟨fun c36 => ?_, fun c36 => ?_⟩
            · skip
              first | (have t37 : v1.toInt = (120) := (i_eq rfl (show (120 : Int32).toInt = 120 from rfl)).mp c36) | (have t37 : v1.toInt = (120 : Int32).toInt := (i_eq rfl rfl).mp c36) | skip
              refine ⟨fun c38 => ?_, fun c38 => ?_⟩
              · skip
                first | (have t39 : (I v0 32).toInt < (0) := (i_lt rfl (show (0 : Int32).toInt = 0 from rfl)).mp c38) | (have t39 : (I v0 32).toInt < (0 : Int32).toInt := (i_lt rfl rfl).mp c38) | skip
                have t40 : (0 : Int32).toInt = 0 := rfl
                exact hQ (0 : Int32) 
              · skip
                first | (have t41 : ¬ ((I v0 32).toInt < (0)) := (not_congr (i_lt rfl (show (0 : Int32).toInt = 0 from rfl))).mp c38) | (have t41 : ¬ ((I v0 32).toInt < (0 : Int32).toInt) := (not_congr (i_lt rfl rfl)).mp c38) | skip
                intro b42 eb42
                obtain ⟨x43, ex43, kb42, lb42⟩ := sh_f w_I.1 kv0 (j := 6) (k := 16) (m := 64) rfl
                cases eb42.symm.trans ex43
                refine s_X12_mainOf w_I v0 (I v0 32) kv0  (by omega) (fun r44 p45 => ?_)
                have rr44 := i_rng r44
                refine s_X12_mainOf w_I v0 (I v0 31) kv0  (by omega) (fun r46 p47 => ?_)
                have rr46 := i_rng r46
                have o48 : vp_in (((8 : Int32) * r44) + r46) 64 := vi_of (i_add (i_mul (show (8 : Int32).toInt = 8 from rfl) rfl (by omega) (by omega)) rfl (by omega) (by omega)) (by omega) (by omega)
                refine ⟨o48, ?_⟩
                refine ⟨fun c49 => ?_, fun c49 => ?_⟩
                · skip
                  first | (have t50 : (I b42 (((8 : Int32) * r44) + r46).toNatClampNeg).toInt = (0) := (i_eq rfl (show (0 : Int32).toInt = 0 from rfl)).mp c49) | (have t50 : (I b42 (((8 : Int32) * r44) + r46).toNatClampNeg).toInt = (0 : Int32).toInt := (i_eq rfl rfl).mp c49) | skip
                  have t51 : (0 : Int32).toInt = 0 := rfl
                  exact hQ (0 : Int32) 
                · skip
                  first | (have t52 : ¬ ((I b42 (((8 : Int32) * r44) + r46).toNatClampNeg).toInt = (0)) := (not_congr (i_eq rfl (show (0 : Int32).toInt = 0 from rfl))).mp c49) | (have t52 : ¬ ((I b42 (((8 : Int32) * r44) + r46).toNatClampNeg).toInt = (0 : Int32).toInt) := (not_congr (i_eq rfl rfl)).mp c49) | skip
                  have t53 : (1 : Int32).toInt = 1 := rfl
                  exact hQ (1 : Int32) 
            · skip
              first | (have t54 : ¬ (v1.toInt = (120)) := (not_congr (i_eq rfl (show (120 : Int32).toInt = 120 from rfl))).mp c36) | (have t54 : ¬ (v1.toInt = (120 : Int32).toInt) := (not_congr (i_eq rfl rfl)).mp c36) | skip
              exact hQ (I v0 34) 
