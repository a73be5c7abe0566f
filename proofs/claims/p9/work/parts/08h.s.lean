def Ws_X7_keepCheapest : List (Nat × Nat) := [(7, 1), (7, 2), (7, 3), (7, 4), (7, 5), (7, 8), (7, 9)]
set_option maxHeartbeats 4000000 in
set_option maxRecDepth 100000 in
theorem l_X7_keepCheapest_L9 {B : Nat × Nat} {T : Nat} {Z0 : jZ} {I0 : jI} {Q : jZ → jI → jL → Prop} (w0 : WD Z0 I0) (v0 : Nat) (v1 : Int32) (v2 : Int32) (v3 : Int32) (kv0 : jk Z0 v0 7) (p0 : 0 ≤ v1.toInt ∧ v1.toInt ≤ 24) (p1 : FI Z0 I0 v0 v1.toNatClampNeg) (p2 : capN Z0 v0 = 1048576 ∨ (I0 v0 3).toInt ≤ 94209) (hQ : ∀  (Z' : jZ) (I' : jI) (L' : jL), WD Z' I' → BUD B Z' T → FR Ws_X7_keepCheapest Z0 I0 Z' I' → CP Z0 Z' → ((I' v0 3).toInt ≤ (I0 v0 3).toInt + 4096 ∧ RO v0 Z0 I0 I') → Q Z' I' L') : ∀ (n : Nat) (v4 : Int32) (v5 : Int32) (Z : jZ) (I : jI) (L : jL), WD Z I → BUD B Z T → FR Ws_X7_keepCheapest Z0 I0 Z I → CP Z0 Z →  ((0 ≤ v5.toInt) ∧ ((I v0 3).toInt ≤ (I0 v0 3).toInt ∨ ((I v0 3).toInt + v4.toInt + 1 ≤ (I0 v0 3).toInt + 4096 ∧ -1 ≤ v4.toInt)) ∧ FI Z I v0 v1.toNatClampNeg ∧ RO v0 Z0 I0 I) → v5.toInt < (n : Int) → f_X7_keepCheapest_L9 B  Q n v0 v1 v3 v4 v5 Z I L := by
  intro n
  induction n with
  | zero =>
    intro v4 v5 Z I L w_I bd_Z q_I cp_Z  li  me
    exfalso
    omega
  | succ n ih =>
    intro v4 v5 Z I L w_I bd_Z q_I cp_Z  li  me
    unfold f_X7_keepCheapest_L9
    have rv4 := i_rng v4
    have rv5 := i_rng v5
    obtain ⟨li0, li1, li2, li3⟩ := li
    have kv0_0 := kv0
    have kv0 := (q_I.1 _ _ kv0).1
    have cpe := cp_Z v0 kv0_0
    refine ⟨fun c1 => ?_, fun c1 => ?_⟩
    · skip
      first | (have t2 : v5.toInt ≤ (0) := (i_le rfl (show (0 : Int32).toInt = 0 from rfl)).mp c1) | (have t2 : v5.toInt ≤ (0 : Int32).toInt := (i_le rfl rfl).mp c1) | skip
      exact hQ  Z I L w_I bd_Z q_I cp_Z (by refine ⟨?_, ?_⟩; (omega); (first | exact RO.rf | exact RO.trans q_I.1 li3 (by assumption) | exact RO.trans q_I.1 li3 (RO.trans jext_rfl (by assumption) (by assumption)) | assumption))
    · skip
      first | (have t3 : ¬ (v5.toInt ≤ (0)) := (not_congr (i_le rfl (show (0 : Int32).toInt = 0 from rfl))).mp c1) | (have t3 : ¬ (v5.toInt ≤ (0 : Int32).toInt) := (not_congr (i_le rfl rfl)).mp c1) | skip
      refine ⟨fun c4 => ?_, fun c4 => ?_⟩
      · skip
        first | (have t5 : v4.toInt < (0) := (i_lt rfl (show (0 : Int32).toInt = 0 from rfl)).mp c4) | (have t5 : v4.toInt < (0 : Int32).toInt := (i_lt rfl rfl).mp c4) | skip
        exact hQ  Z I L w_I bd_Z q_I cp_Z (by refine ⟨?_, ?_⟩; (omega); (first | exact RO.rf | exact RO.trans q_I.1 li3 (by assumption) | exact RO.trans q_I.1 li3 (RO.trans jext_rfl (by assumption) (by assumption)) | assumption))
      · skip
        first | (have t6 : ¬ (v4.toInt < (0)) := (not_congr (i_lt rfl (show (0 : Int32).toInt = 0 from rfl))).mp c4) | (have t6 : ¬ (v4.toInt < (0 : Int32).toInt) := (not_congr (i_lt rfl rfl)).mp c4) | skip
        refine s_X7_take w_I v0 kv0   (fun r7 I9 L10 w_I9 f_I9 p8 => ?_)
        have q_I9 : FR Ws_X7_keepCheapest Z0 I0 Z I9 := q_I.trans w0.1 w0.2.1 (f_I9.mono (by decide))
        obtain ⟨p8_0, p8_1, p8_2⟩ := p8
        refine s_X11_costIn w_I9 r7    (fun r11  => ?_)
        have rr11 := i_rng r11
        refine ⟨fun c12 => ?_, fun c12 => ?_⟩
        · skip
          first | (have t13 : r11.toInt ≤ v3.toInt := (i_le rfl rfl).mp c12) | (have t13 : r11.toInt ≤ v3.toInt := (i_le rfl rfl).mp c12) | skip
          refine s_X11_effortIn w_I9 r7    (fun r14 p15 => ?_)
          have rr14 := i_rng r14
          refine ⟨fun c16 => ?_, fun c16 => ?_⟩
          · skip
            first | (have t17 : v4.toInt < r14.toInt := (i_lt rfl rfl).mp c16) | (have t17 : v4.toInt < r14.toInt := (i_lt rfl rfl).mp c16) | skip
            unfold f_X7_keepCheapest_b61
            intro x18 ex18
            have rx18 := i_rng x18
            first | (have tx18 : x18.toInt = v5.toInt + (-1) := by (rw [ex18]; exact (i_add rfl (show (-1 : Int32).toInt = -1 from rfl) (by omega) (by omega)))) | skip
            exact ih v4 x18 Z I9 L10 w_I9 bd_Z q_I9 cp_Z  (by refine ⟨?_, ?_, ?_, ?_⟩; (omega); (omega); (first | assumption | solve_by_elim); (first | exact RO.rf | exact RO.trans q_I.1 li3 (by assumption) | exact RO.trans q_I.1 li3 (RO.trans jext_rfl (by assumption) (by assumption)) | assumption))  (by omega)
          · skip
            first | (have t19 : ¬ (v4.toInt < r14.toInt) := (not_congr (i_lt rfl rfl)).mp c16) | (have t19 : ¬ (v4.toInt < r14.toInt) := (not_congr (i_lt rfl rfl)).mp c16) | skip
            refine s_X7_push w_I9 bd_Z v0 v1 r7 kv0  (by omega) (by first | assumption | solve_by_elim | (simp only [*]; assumption)) (by omega) (fun  Z23 I21 L22 w_I21 bd_Z23 f_I21 c_Z23 p20 => ?_)
            have q_I21 : FR Ws_X7_keepCheapest Z0 I0 Z23 I21 := q_I9.trans w0.1 w0.2.1 (f_I21.mono (by decide))
            have cp_Z23 : CP Z0 Z23 := cp_Z.trans q_I9.1 c_Z23
            have k24 := (f_I21.1 _ _ kv0).1
            obtain ⟨p20_0, p20_1, p20_2, p20_3⟩ := p20
            refine s_X11_effortIn w_I21 r7    (fun r25 p26 => ?_)
            have rr25 := i_rng r25
            intro x27 ex27
            have rx27 := i_rng x27
            first | (have tx27 : x27.toInt = (r25.toInt - (1)) := by (rw [ex27]; exact (i_sub rfl (show (1 : Int32).toInt = 1 from rfl) (by omega) (by omega)))) | (have tx27 : x27.toInt = (r25 - (1 : Int32)).toInt := by rw [ex27])
            unfold f_X7_keepCheapest_b61
            intro x28 ex28
            have rx28 := i_rng x28
            first | (have tx28 : x28.toInt = v5.toInt + (-1) := by (rw [ex28]; exact (i_add rfl (show (-1 : Int32).toInt = -1 from rfl) (by omega) (by omega)))) | skip
            exact ih x27 x28 Z23 I21 L22 w_I21 bd_Z23 q_I21 cp_Z23  (by refine ⟨?_, ?_, ?_, ?_⟩; (omega); (omega); (first | assumption | solve_by_elim); (first | exact RO.rf | exact RO.trans q_I.1 li3 (by assumption) | exact RO.trans q_I.1 li3 (RO.trans jext_rfl (by assumption) (by assumption)) | assumption))  (by omega)
        · skip
          first | (have t29 : ¬ (r11.toInt ≤ v3.toInt) := (not_congr (i_le rfl rfl)).mp c12) | (have t29 : ¬ (r11.toInt ≤ v3.toInt) := (not_congr (i_le rfl rfl)).mp c12) | skip
          exact hQ  Z I9 L10 w_I9 bd_Z q_I9 cp_Z (by refine ⟨?_, ?_⟩; (omega); (first | exact RO.rf | exact RO.trans q_I.1 li3 (by assumption) | exact RO.trans q_I.1 li3 (RO.trans jext_rfl (by assumption) (by assumption)) | assumption))
set_option maxHeartbeats 4000000 in
set_option maxRecDepth 100000 in
theorem s_X7_keepCheapest {B : Nat × Nat} {T : Nat} {Z : jZ} {I : jI} {L : jL} (w_I : WD Z I) (bd_Z : BUD B Z T) (v0 : Nat) (v1 : Int32) (v2 : Int32) (v3 : Int32) (kv0 : jk Z v0 7) (p0 : 0 ≤ v1.toInt ∧ v1.toInt ≤ 24) (p1 : FI Z I v0 v1.toNatClampNeg) (p2 : capN Z v0 = 1048576 ∨ (I v0 3).toInt ≤ 94209) {Q : jZ → jI → jL → Prop} (hQ : ∀  (Z' : jZ) (I' : jI) (L' : jL), WD Z' I' → BUD B Z' T → FR Ws_X7_keepCheapest Z I Z' I' → CP Z Z' → ((I' v0 3).toInt ≤ (I v0 3).toInt + 4096 ∧ RO v0 Z I I') → Q Z' I' L') : f_X7_keepCheapest B v0 v1 v2 v3 Z I L Q := by
  unfold f_X7_keepCheapest
  have q_I : FR Ws_X7_keepCheapest Z I Z I := FR.rf
  have cp_Z : CP Z Z := CP.rf
  have rv1 := i_rng v1
  have rv2 := i_rng v2
  have rv3 := i_rng v3
  have t30 := rw9 w_I kv0
  intro x31 ex31
  have rx31 := i_rng x31
  first | (have tx31 : x31.toInt = (I v0 9).toInt := by (rw [ex31]; exact rfl)) | (have tx31 : x31.toInt = (I v0 9).toInt := by rw [ex31])
  exact ⟨(x31.toInt).toNat + 1, l_X7_keepCheapest_L9 w_I v0 v1 v2 v3 kv0 p0 p1 p2   hQ  _ v2 x31 Z I L w_I bd_Z q_I cp_Z  (by refine ⟨?_, ?_, ?_, ?_⟩; (omega); (omega); (first | assumption | solve_by_elim); (first | exact RO.rf | exact RO.trans q_I.1 li3 (by assumption) | exact RO.trans q_I.1 li3 (RO.trans jext_rfl (by assumption) (by assumption)) | assumption))  (by omega)⟩
def Ws_X7_pushSummed : List (Nat × Nat) := [(7, 1), (7, 2), (7, 3), (7, 4), (7, 5), (7, 8), (7, 9)]
set_option maxHeartbeats 4000000 in
set_option maxRecDepth 100000 in
theorem s_X7_pushSummed {B : Nat × Nat} {T : Nat} {Z : jZ} {I : jI} {L : jL} (w_I : WD Z I) (bd_Z : BUD B Z T) (v0 : Nat) (v1 : Int32) (v2 : Int64) (kv0 : jk Z v0 7) (p0 : 0 ≤ v1.toInt ∧ v1.toInt ≤ 24) (p1 : FI Z I v0 v1.toNatClampNeg) (p2 : capN Z v0 = 1048576 ∨ (I v0 3).toInt ≤ 98304) {Q : jZ → jI → jL → Prop} (hQ : ∀  (Z' : jZ) (I' : jI) (L' : jL), WD Z' I' → BUD B Z' T → FR Ws_X7_pushSummed Z I Z' I' → CP Z Z' → (FI Z' I' v0 v1.toNatClampNeg) → Q Z' I' L') : f_X7_pushSummed B v0 v1 v2 Z I L Q := by
  unfold f_X7_pushSummed
  have q_I : FR Ws_X7_pushSummed Z I Z I := FR.rf
  have cp_Z : CP Z Z := CP.rf
  have rv1 := i_rng v1
  refine s_X7_sizeAt w_I v0 v1 kv0   (fun r1 p2 => ?_)
  obtain ⟨b3, eb3, kb3, lb3⟩ := sh_f w_I.1 kv0 (j := 1) (k := 14) (m := 25) rfl
  have t5 : 0 < r1.toInt → (0 ≤ v1.toInt ∧ v1.toInt ≤ 24 ∧ 0 ≤ (I b3 v1.toNatClampNeg).toInt ∧ (I b3 v1.toNatClampNeg).toInt + r1.toInt ≤ (I v0 3).toInt) := fun h9 => ⟨(p2.2.2 h9).1, (p2.2.2 h9).2.1, (p2.2.2 h9).2.2 _ eb3⟩
  have t6 := rw3 w_I kv0
  obtain ⟨p2_0, p2_1, p2_2⟩ := p2
  have rr1 := i_rng r1
  refine ⟨fun c7 => ?_, fun c7 => ?_⟩
  · skip
    first | (have t8 : r1.toInt ≤ (0) := (i_le rfl (show (0 : Int32).toInt = 0 from rfl)).mp c7) | (have t8 : r1.toInt ≤ (0 : Int32).toInt := (i_le rfl rfl).mp c7) | skip
    unfold f_X7_pushSummed_b58
    refine s_X7_push w_I bd_Z v0 v1 v2 kv0  (by omega) (by first | assumption | solve_by_elim | (simp only [*]; assumption)) (by omega) (fun  Z12 I10 L11 w_I10 bd_Z12 f_I10 c_Z12 p9 => ?_)
    have q_I10 : FR Ws_X7_pushSummed Z I Z12 I10 := q_I.trans w_I.1 w_I.2.1 (f_I10.mono (by decide))
    have cp_Z12 : CP Z Z12 := cp_Z.trans q_I.1 c_Z12
    have k13 := (f_I10.1 _ _ kv0).1
    have k14 := (f_I10.1 _ _ kb3).1
    have l15 := (f_I10.1 _ _ kb3).2.trans lb3
    have k16 := (f_I10.1 _ _ kv0).1
    have e17 := (f_I10.2.1 v0 7 1 kv0 (by decide) (by decide)).trans eb3
    obtain ⟨p9_0, p9_1, p9_2, p9_3⟩ := p9
    exact hQ  Z12 I10 L11 w_I10 bd_Z12 q_I10 cp_Z12 (by assumption)
  · skip
    first | (have t18 : ¬ (r1.toInt ≤ (0)) := (not_congr (i_le rfl (show (0 : Int32).toInt = 0 from rfl))).mp c7) | (have t18 : ¬ (r1.toInt ≤ (0 : Int32).toInt) := (not_congr (i_le rfl rfl)).mp c7) | skip
    intro b19 eb19
    obtain ⟨x20, ex20, kb19⟩ := sh_o w_I.1 kv0 (j := 0) (k := 15) rfl
    cases eb19.symm.trans ex20
    have t21 := rw0 w_I kv0 eb19
    have t22 := rw3 w_I kv0
    have o23 : vp_in ((I v0 3) - (1 : Int32)) (jlen Z b19) := vi_of (i_sub rfl (show (1 : Int32).toInt = 1 from rfl) (by omega) (by omega)) (by omega) (by omega)
    refine ⟨o23, ?_⟩
    refine ⟨fun c24 => ?_, fun c24 => ?_⟩
    · skip
      first | (have t25 : ¬ ((lg_cmp ((L b19 ((I v0 3) - (1 : Int32)).toNatClampNeg) &&& (-536870912 : Int64)) (v2 &&& (-536870912 : Int64))).toInt = (0)) := (not_congr (i_eq rfl (show (0 : Int32).toInt = 0 from rfl))).mp c24) | (have t25 : ¬ ((lg_cmp ((L b19 ((I v0 3) - (1 : Int32)).toNatClampNeg) &&& (-536870912 : Int64)) (v2 &&& (-536870912 : Int64))).toInt = (0 : Int32).toInt) := (not_congr (i_eq rfl rfl)).mp c24) | skip
      unfold f_X7_pushSummed_b58
      refine s_X7_push w_I bd_Z v0 v1 v2 kv0  (by omega) (by first | assumption | solve_by_elim | (simp only [*]; assumption)) (by omega) (fun  Z29 I27 L28 w_I27 bd_Z29 f_I27 c_Z29 p26 => ?_)
      have q_I27 : FR Ws_X7_pushSummed Z I Z29 I27 := q_I.trans w_I.1 w_I.2.1 (f_I27.mono (by decide))
      have cp_Z29 : CP Z Z29 := cp_Z.trans q_I.1 c_Z29
      have k30 := (f_I27.1 _ _ kv0).1
      have k31 := (f_I27.1 _ _ kb3).1
      have l32 := (f_I27.1 _ _ kb3).2.trans lb3
      have k33 := (f_I27.1 _ _ kv0).1
      have e34 := (f_I27.2.1 v0 7 1 kv0 (by decide) (by decide)).trans eb3
      have k35 := (f_I27.1 _ _ kb19).1
      have l36 := (f_I27.1 _ _ kb19).2
      obtain ⟨p26_0, p26_1, p26_2, p26_3⟩ := p26
      exact hQ  Z29 I27 L28 w_I27 bd_Z29 q_I27 cp_Z29 (by assumption)
    · skip
      first | (have t37 : (lg_cmp ((L b19 ((I v0 3) - (1 : Int32)).toNatClampNeg) &&& (-536870912 : Int64)) (v2 &&& (-536870912 : Int64))).toInt = (0) := (i_eq rfl (show (0 : Int32).toInt = 0 from rfl)).mp c24) | (have t37 : (lg_cmp ((L b19 ((I v0 3) - (1 : Int32)).toNatClampNeg) &&& (-536870912 : Int64)) (v2 &&& (-536870912 : Int64))).toInt = (0 : Int32).toInt := (i_eq rfl rfl).mp c24) | skip
      intro b38 eb38
      obtain rfl : b19 = b38 := Option.some.inj (eb19.symm.trans eb38)
      have t39 := rw3 w_I kv0
      have o40 : vp_in ((I v0 3) - (1 : Int32)) (jlen Z b19) := vi_of (i_sub rfl (show (1 : Int32).toInt = 1 from rfl) (by omega) (by omega)) (by omega) (by omega)
      refine ⟨o40, ?_⟩
      have o41 : vp_in ((I v0 3) - (1 : Int32)) (jlen Z b19) := vi_of (i_sub rfl (show (1 : Int32).toInt = 1 from rfl) (by omega) (by omega)) (by omega) (by omega)
      refine ⟨o41, ?_⟩
      intro L42 eL42
      exact hQ  Z I L42 w_I bd_Z q_I cp_Z (by assumption)
