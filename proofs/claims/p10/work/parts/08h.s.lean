def Ws_X7_keepCheapest : List (Nat × Nat) := [(7, 1), (7, 2), (7, 3), (7, 4), (7, 5), (7, 8), (7, 9)]
set_option maxHeartbeats 4000000 in
set_option maxRecDepth 100000 in
theorem l_X7_keepCheapest_L9 {B : Nat × Nat} {T : Nat} {Z0 : jZ} {I0 : jI} {Q : jZ → jI → jL → Prop} (w0 : WD Z0 I0) (v0 : Nat) (v1 : Int32) (v2 : Int32) (v3 : Int32) (kv0 : jk Z0 v0 7) (p0 : 0 ≤ v1.toInt ∧ v1.toInt ≤ 24) (p1 : FI Z0 I0 v0 v1.toNatClampNeg) (p2 : capN Z0 v0 = 1048576 ∨ (I0 v0 3).toInt ≤ 94209) (hQ : ∀  (Z' : jZ) (I' : jI) (L' : jL), WD Z' I' → BUD B Z' T → FR Ws_X7_keepCheapest Z0 I0 Z' I' → CP Z0 Z' → ((I' v0 3).toInt ≤ (I0 v0 3).toInt + 4096 ∧ RO v0 Z0 I0 I') → Q Z' I' L') : ∀ (n : Nat) (v4 : Int32) (v5 : Int32) (Z : jZ) (I : jI) (L : jL), WD Z I → BUD B Z T → FR Ws_X7_keepCheapest Z0 I0 Z I → CP Z0 Z →   ((0 ≤ v5.toInt) ∧ ((I v0 3).toInt ≤ (I0 v0 3).toInt ∨ ((I v0 3).toInt + v4.toInt + 1 ≤ (I0 v0 3).toInt + 4096 ∧ -1 ≤ v4.toInt)) ∧ FI Z I v0 v1.toNatClampNeg ∧ RO v0 Z0 I0 I) → v5.toInt < (n : Int) → f_X7_keepCheapest_L9 B  Q n v0 v1 v3 v4 v5 Z I L := by
  intro n
  induction n with
  | zero =>
    intro v4 v5 Z I L w_I bd_Z q_I cp_Z   li  me
    exfalso
    omega
  | succ n ih =>
    intro v4 v5 Z I L w_I bd_Z q_I cp_Z   li  me
    unfold f_X7_keepCheapest_L9
    have rv4 := i_rng v4
    have rv5 := i_rng v5
    have rv1 := i_rng v1
    have rv2 := i_rng v2
    have rv3 := i_rng v3
    obtain ⟨li0, li1, li2, li3⟩ := li
    have ro_I := li3
    have kv0_0 := kv0
    have kv0 := (q_I.1 _ _ kv0).1
    have cpe := cp_Z v0 kv0_0
    have xq_I := q_I.1
    refine ⟨fun c1 => ?_, fun c1 => ?_⟩
    · skip
      first | (have t2 : v5.toInt ≤ (0) := (i_le rfl (show (0 : Int32).toInt = 0 from rfl)).mp c1) | (have t2 : v5.toInt ≤ (0 : Int32).toInt := (i_le rfl rfl).mp c1) | skip
      exact hQ  Z I L w_I bd_Z q_I cp_Z (by refine ⟨?_, ?_⟩; (omega); exact ro_I)
    · skip
      first | (have t3 : ¬ (v5.toInt ≤ (0)) := (not_congr (i_le rfl (show (0 : Int32).toInt = 0 from rfl))).mp c1) | (have t3 : ¬ (v5.toInt ≤ (0 : Int32).toInt) := (not_congr (i_le rfl rfl)).mp c1) | skip
      refine ⟨fun c4 => ?_, fun c4 => ?_⟩
      · skip
        first | (have t5 : v4.toInt < (0) := (i_lt rfl (show (0 : Int32).toInt = 0 from rfl)).mp c4) | (have t5 : v4.toInt < (0 : Int32).toInt := (i_lt rfl rfl).mp c4) | skip
        exact hQ  Z I L w_I bd_Z q_I cp_Z (by refine ⟨?_, ?_⟩; (omega); exact ro_I)
      · skip
        first | (have t6 : ¬ (v4.toInt < (0)) := (not_congr (i_lt rfl (show (0 : Int32).toInt = 0 from rfl))).mp c4) | (have t6 : ¬ (v4.toInt < (0 : Int32).toInt) := (not_congr (i_lt rfl rfl)).mp c4) | skip
        refine s_X7_take w_I v0 kv0   (fun r7 I9 L10 w_I9 f_I9 p8 => ?_)
        have q_I9 : FR Ws_X7_keepCheapest Z0 I0 Z I9 := q_I.trans w0.1 w0.2.1 (f_I9.mono (by decide))
        obtain ⟨p8_0, p8_1, p8_2⟩ := p8
        have ro_I9 : RO v0 Z0 I0 I9 := RO.trans q_I.1 ro_I p8_2
        refine s_X11_costIn w_I9 r7    (fun r11  => ?_)
        have rr11 := i_rng r11
        refine ⟨fun c12 => ?_, fun c12 => ?_⟩
        · skip
          first | (have t13 : r11.toInt ≤ v3.toInt := (i_le rfl rfl).mp c12) | (have t13 : r11.toInt ≤ v3.toInt := (i_le rfl rfl).mp c12) | skip
          refine s_X11_effortIn w_I9 r7    (fun r14 p15 => ?_)
          have rr14 := i_rng r14
          refine ⟨fun c16 => ?_, fun c16 => ?_⟩
          · skip
            first | (have t17 : v4.toInt < r14.toInt := (i_lt rfl rfl).mp c16) | (have t17 : v4.toInt < r14.toInt := (i_lt rfl rfl).mp c16) | skip
            unfold f_X7_keepCheapest_b61
            intro x18 ex18
            have rx18 := i_rng x18
            first | (have tx18 : x18.toInt = v5.toInt + (-1) := by (rw [ex18]; exact (i_add rfl (show (-1 : Int32).toInt = -1 from rfl) (by omega) (by omega)))) | skip
            exact ih v4 x18 Z I9 L10 w_I9 bd_Z q_I9 cp_Z   (by refine ⟨?_, ?_, ?_, ?_⟩; (omega); (omega); (first | assumption | solve_by_elim); exact ro_I9)  (by omega)
          · skip
            first | (have t19 : ¬ (v4.toInt < r14.toInt) := (not_congr (i_lt rfl rfl)).mp c16) | (have t19 : ¬ (v4.toInt < r14.toInt) := (not_congr (i_lt rfl rfl)).mp c16) | skip
            refine s_X7_push w_I9 bd_Z v0 v1 r7 kv0  (by omega) (by first | assumption | solve_by_elim | (simp only [*]; assumption)) (by omega) (fun  Z23 I21 L22 w_I21 bd_Z23 f_I21 c_Z23 p20 => ?_)
            have q_I21 : FR Ws_X7_keepCheapest Z0 I0 Z23 I21 := q_I9.trans w0.1 w0.2.1 (f_I21.mono (by decide))
            have cp_Z23 : CP Z0 Z23 := cp_Z.trans q_I9.1 c_Z23
            have x_Z23 := f_I21.1
            have k24 := (f_I21.1 _ _ kv0).1
            obtain ⟨p20_0, p20_1, p20_2, p20_3⟩ := p20
            have ro_I21 : RO v0 Z0 I0 I21 := RO.trans q_I9.1 ro_I9 p20_3
            refine s_X11_effortIn w_I21 r7    (fun r25 p26 => ?_)
            have rr25 := i_rng r25
            intro x27 ex27
            have rx27 := i_rng x27
            first | (have tx27 : x27.toInt = (r25.toInt - (1)) := by (rw [ex27]; exact (i_sub rfl (show (1 : Int32).toInt = 1 from rfl) (by omega) (by omega)))) | (have tx27 : x27.toInt = (r25 - (1 : Int32)).toInt := by rw [ex27])
            unfold f_X7_keepCheapest_b61
            intro x28 ex28
            have rx28 := i_rng x28
            first | (have tx28 : x28.toInt = v5.toInt + (-1) := by (rw [ex28]; exact (i_add rfl (show (-1 : Int32).toInt = -1 from rfl) (by omega) (by omega)))) | skip
            exact ih x27 x28 Z23 I21 L22 w_I21 bd_Z23 q_I21 cp_Z23   (by refine ⟨?_, ?_, ?_, ?_⟩; (omega); (omega); (first | assumption | solve_by_elim); exact ro_I21)  (by omega)
        · skip
          first | (have t29 : ¬ (r11.toInt ≤ v3.toInt) := (not_congr (i_le rfl rfl)).mp c12) | (have t29 : ¬ (r11.toInt ≤ v3.toInt) := (not_congr (i_le rfl rfl)).mp c12) | skip
          exact hQ  Z I9 L10 w_I9 bd_Z q_I9 cp_Z (by refine ⟨?_, ?_⟩; (omega); exact ro_I9)
set_option maxHeartbeats 4000000 in
set_option maxRecDepth 100000 in
theorem s_X7_keepCheapest {B : Nat × Nat} {T : Nat} {Z : jZ} {I : jI} {L : jL} (w_I : WD Z I) (bd_Z : BUD B Z T) (v0 : Nat) (v1 : Int32) (v2 : Int32) (v3 : Int32) (kv0 : jk Z v0 7) (p0 : 0 ≤ v1.toInt ∧ v1.toInt ≤ 24) (p1 : FI Z I v0 v1.toNatClampNeg) (p2 : capN Z v0 = 1048576 ∨ (I v0 3).toInt ≤ 94209) {Q : jZ → jI → jL → Prop} (hQ : ∀  (Z' : jZ) (I' : jI) (L' : jL), WD Z' I' → BUD B Z' T → FR Ws_X7_keepCheapest Z I Z' I' → CP Z Z' → ((I' v0 3).toInt ≤ (I v0 3).toInt + 4096 ∧ RO v0 Z I I') → Q Z' I' L') : f_X7_keepCheapest B v0 v1 v2 v3 Z I L Q := by
  unfold f_X7_keepCheapest
  have q_I : FR Ws_X7_keepCheapest Z I Z I := FR.rf
  have ro_I : RO v0 Z I I := RO.rf
  have cp_Z : CP Z Z := CP.rf
  have rv1 := i_rng v1
  have rv2 := i_rng v2
  have rv3 := i_rng v3
  have t30 := rw9 w_I kv0
  intro x31 ex31
  have rx31 := i_rng x31
  first | (have tx31 : x31.toInt = (I v0 9).toInt := by (rw [ex31]; exact rfl)) | (have tx31 : x31.toInt = (I v0 9).toInt := by rw [ex31])
  exact ⟨(x31.toInt).toNat + 1, l_X7_keepCheapest_L9 w_I v0 v1 v2 v3 kv0 p0 p1 p2   hQ   _ v2 x31 Z I L w_I bd_Z q_I cp_Z   (by refine ⟨?_, ?_, ?_, ?_⟩; (omega); (omega); (first | assumption | solve_by_elim); exact ro_I)  (by omega)⟩
def Ws_X0_easiest : List (Nat × Nat) := [(7, 1), (7, 2), (7, 3), (7, 4), (7, 5), (7, 8), (7, 9)]
set_option maxHeartbeats 4000000 in
set_option maxRecDepth 100000 in
theorem l_X0_easiest_L13 {B : Nat × Nat} {T : Nat} {Z0 : jZ} {I0 : jI} {Q : Int64 → jZ → jI → jL → Prop} (w0 : WD Z0 I0) (v0 : Nat) (v1 : Nat) (kv0 : jk Z0 v0 0) (kv1 : jk Z0 v1 6) (u0 : Nat) (hu0 : jr Z0 v0 0 = some u0) (hQ : ∀ (r : Int64) (Z' : jZ) (I' : jI) (L' : jL), WD Z' I' → BUD B Z' T → FR Ws_X0_easiest Z0 I0 Z' I' → CP Z0 Z' → Q r Z' I' L') : ∀ (n : Nat) (v2 : Int32) (Z : jZ) (I : jI) (L : jL), WD Z I → BUD B Z T → FR Ws_X0_easiest Z0 I0 Z I → CP Z0 Z →   (1 ≤ v2.toInt ∧ v2.toInt ≤ 25) → 25 - v2.toInt < (n : Int) → f_X0_easiest_L13 B  Q n v0 v1 v2 Z I L := by
  intro n
  induction n with
  | zero =>
    intro v2 Z I L w_I bd_Z q_I cp_Z   li  me
    exfalso
    omega
  | succ n ih =>
    intro v2 Z I L w_I bd_Z q_I cp_Z   li  me
    unfold f_X0_easiest_L13
    have rv2 := i_rng v2
    have kv0_0 := kv0
    have kv0 := (q_I.1 _ _ kv0).1
    have kv1_0 := kv1
    have kv1 := (q_I.1 _ _ kv1).1
    have hu0_1 : jr Z v0 0 = some u0 := (q_I.2.1 v0 0 0 kv0_0 (by decide) (by decide)).trans hu0
    have ku0 : jk Z u0 7 := by obtain ⟨b9, e9, k9⟩ := sh_o w_I.1 kv0 (j := 0) (k := 7) rfl; cases hu0_1.symm.trans e9; exact k9
    have cu0_9 := capN0 kv0 hu0_1
    have xq_I := q_I.1
    have t2 : 0 ≤ (I v1 15).toInt ∧ (I v1 15).toInt ≤ 24 := w_I.fld 6 15 kv1 (by decide)
    refine ⟨fun c3 => ?_, fun c3 => ?_⟩
    · skip
      first | (have t4 : (I v1 15).toInt < v2.toInt := (i_lt rfl rfl).mp c3) | (have t4 : (I v1 15).toInt < v2.toInt := (i_lt rfl rfl).mp c3) | skip
      intro b5 eb5
      obtain rfl : u0 = b5 := Option.some.inj (hu0_1.symm.trans eb5)
      have t7 : 0 ≤ (I v1 15).toInt ∧ (I v1 15).toInt ≤ 24 := w_I.fld 6 15 kv1 (by decide)
      intro b8 eb8
      obtain rfl : u0 = b8 := Option.some.inj (hu0_1.symm.trans eb8)
      have t10 : 0 ≤ (I v1 15).toInt ∧ (I v1 15).toInt ≤ 24 := w_I.fld 6 15 kv1 (by decide)
      refine s_X7_sizeAt w_I u0 (I v1 15) ku0   (fun r11 p12 => ?_)
      obtain ⟨b13, eb13, kb13, lb13⟩ := sh_f w_I.1 ku0 (j := 1) (k := 14) (m := 25) rfl
      have t15 : 0 < r11.toInt → (0 ≤ (I v1 15).toInt ∧ (I v1 15).toInt ≤ 24 ∧ 0 ≤ (I b13 (I v1 15).toNatClampNeg).toInt ∧ (I b13 (I v1 15).toNatClampNeg).toInt + r11.toInt ≤ (I u0 3).toInt) := fun h9 => ⟨(p12.2.2 h9).1, (p12.2.2 h9).2.1, (p12.2.2 h9).2.2 _ eb13⟩
      have t16 := rw3 w_I ku0
      obtain ⟨p12_0, p12_1, p12_2⟩ := p12
      have rr11 := i_rng r11
      try (have t17 : (r11 - (1 : Int32)).toInt = (r11.toInt - (1)) := (i_sub rfl (show (1 : Int32).toInt = 1 from rfl) (by omega) (by omega)))
      refine s_X7_keyAt w_I u0 (I v1 15) (r11 - (1 : Int32)) ku0   (fun r18  => ?_)
      exact hQ r18 Z I L w_I bd_Z q_I cp_Z 
    · skip
      first | (have t19 : ¬ ((I v1 15).toInt < v2.toInt) := (not_congr (i_lt rfl rfl)).mp c3) | (have t19 : ¬ ((I v1 15).toInt < v2.toInt) := (not_congr (i_lt rfl rfl)).mp c3) | skip
      intro b20 eb20
      obtain rfl : u0 = b20 := Option.some.inj (hu0_1.symm.trans eb20)
      have t21 : (-1 : Int32).toInt = -1 := rfl
      refine s_X6_feed w_I v1 u0 v2 (-1 : Int64) (-1 : Int32) kv1 ku0  (by omega) (fun  I23 L24 w_I23 f_I23 p22 => ?_)
      have q_I23 : FR Ws_X0_easiest Z0 I0 Z I23 := q_I.trans w0.1 w0.2.1 (f_I23.mono (by decide))
      have u25 : (I23 v1 15).toInt = (I v1 15).toInt := by rw [f_I23.2.2.1 v1 6 15 kv1 (by decide) (by decide)]
      obtain ⟨p22_0, p22_1, p22_2⟩ := p22
      intro b26 eb26
      obtain rfl : u0 = b26 := Option.some.inj (hu0_1.symm.trans eb26)
      intro b27 eb27
      obtain ⟨x28, ex28, kb27, lb27⟩ := sh_f w_I23.1 kv1 (j := 7) (k := 14) (m := 25) rfl
      cases eb27.symm.trans ex28
      have o29 : vp_in v2 25 := vi_of rfl (by omega) (by omega)
      refine ⟨o29, ?_⟩
      try (have t30 : ((999 : Int32) - (I23 b27 v2.toNatClampNeg)).toInt = ((999) - (I23 b27 v2.toNatClampNeg).toInt) := (i_sub (show (999 : Int32).toInt = 999 from rfl) rfl (by omega) (by omega)))
      refine s_X7_keepCheapest w_I23 bd_Z u0 v2 ((999 : Int32) - (I23 b27 v2.toNatClampNeg)) (I23 v1 2) ku0  (by omega) (by first | assumption | solve_by_elim | (simp only [*]; assumption)) (by omega) (fun  Z34 I32 L33 w_I32 bd_Z34 f_I32 c_Z34 p31 => ?_)
      have q_I32 : FR Ws_X0_easiest Z0 I0 Z34 I32 := q_I23.trans w0.1 w0.2.1 (f_I32.mono (by decide))
      have cp_Z34 : CP Z0 Z34 := cp_Z.trans q_I23.1 c_Z34
      have x_Z34 := f_I32.1
      have k35 := (f_I32.1 _ _ kv0).1
      have k36 := (f_I32.1 _ _ kv1).1
      have k37 := (f_I32.1 _ _ ku0).1
      have k38 := (f_I32.1 _ _ kv0).1
      have e39 := (f_I32.2.1 v0 0 0 kv0 (by decide) (by decide)).trans hu0_1
      have k40 := (f_I32.1 _ _ kb27).1
      have l41 := (f_I32.1 _ _ kb27).2.trans lb27
      have k42 := (f_I32.1 _ _ kv1).1
      have e43 := (f_I32.2.1 v1 6 7 kv1 (by decide) (by decide)).trans eb27
      have u44 : (I32 v1 15).toInt = (I23 v1 15).toInt := by rw [f_I32.2.2.1 v1 6 15 kv1 (by decide) (by decide)]
      have u45 : (I32 v1 2).toInt = (I23 v1 2).toInt := by rw [f_I32.2.2.1 v1 6 2 kv1 (by decide) (by decide)]
      obtain ⟨p31_0, p31_1⟩ := p31
      intro x46 ex46
      have rx46 := i_rng x46
      first | (have tx46 : x46.toInt = v2.toInt + (1) := by (rw [ex46]; exact (i_add rfl (show (1 : Int32).toInt = 1 from rfl) (by omega) (by omega)))) | skip
      exact ih x46 Z34 I32 L33 w_I32 bd_Z34 q_I32 cp_Z34   (by omega)  (by omega)
set_option maxHeartbeats 4000000 in
set_option maxRecDepth 100000 in
theorem s_X0_easiest {B : Nat × Nat} {T : Nat} {Z : jZ} {I : jI} {L : jL} (w_I : WD Z I) (bd_Z : BUD B Z T) (v0 : Nat) (v1 : Nat) (kv0 : jk Z v0 0) (kv1 : jk Z v1 6) (u0 : Nat) (hu0 : jr Z v0 0 = some u0) {Q : Int64 → jZ → jI → jL → Prop} (hQ : ∀ (r : Int64) (Z' : jZ) (I' : jI) (L' : jL), WD Z' I' → BUD B Z' T → FR Ws_X0_easiest Z I Z' I' → CP Z Z' → Q r Z' I' L') : f_X0_easiest B v0 v1 Z I L Q := by
  unfold f_X0_easiest
  have q_I : FR Ws_X0_easiest Z I Z I := FR.rf
  have cp_Z : CP Z Z := CP.rf
  have ku0 : jk Z u0 7 := by obtain ⟨b9, e9, k9⟩ := sh_o w_I.1 kv0 (j := 0) (k := 7) rfl; cases hu0.symm.trans e9; exact k9
  have cu0_9 := capN0 kv0 hu0
  intro b47 eb47
  obtain rfl : u0 = b47 := Option.some.inj (hu0.symm.trans eb47)
  have t48 : (0 : Int32).toInt = 0 := rfl
  refine s_X7_begin w_I bd_Z u0 (0 : Int32) (16777215 : Int64) ku0  (by omega) (fun  Z52 I50 L51 w_I50 bd_Z52 f_I50 c_Z52 p49 => ?_)
  have q_I50 : FR Ws_X0_easiest Z I Z52 I50 := q_I.trans w_I.1 w_I.2.1 (f_I50.mono (by decide))
  have cp_Z52 : CP Z Z52 := cp_Z.trans q_I.1 c_Z52
  have x_Z52 := f_I50.1
  have k53 := (f_I50.1 _ _ kv0).1
  have k54 := (f_I50.1 _ _ kv1).1
  have k55 := (f_I50.1 _ _ ku0).1
  have k56 := (f_I50.1 _ _ kv0).1
  have e57 := (f_I50.2.1 v0 0 0 kv0 (by decide) (by decide)).trans hu0
  obtain ⟨p49_0, p49_1⟩ := p49
  have t58 : (1 : Int32).toInt = 1 := rfl
  exact ⟨(25 - (1 : Int32).toInt).toNat + 1, l_X0_easiest_L13 w_I v0 v1 kv0 kv1 u0 hu0   hQ   _ (1 : Int32) Z52 I50 L51 w_I50 bd_Z52 q_I50 cp_Z52   (by omega)  (by omega)⟩
def Ws_X7_keepEachCost : List (Nat × Nat) := [(7, 1), (7, 2), (7, 3), (7, 4), (7, 5), (7, 8), (7, 9)]
set_option maxHeartbeats 4000000 in
set_option maxRecDepth 100000 in
theorem l_X7_keepEachCost_L9 {B : Nat × Nat} {T : Nat} {Z0 : jZ} {I0 : jI} {Q : jZ → jI → jL → Prop} (w0 : WD Z0 I0) (v0 : Nat) (v1 : Int32) (v2 : Int32) (v3 : Int32) (kv0 : jk Z0 v0 7) (p0 : 0 ≤ v1.toInt ∧ v1.toInt ≤ 24) (p1 : FI Z0 I0 v0 v1.toNatClampNeg) (p2 : capN Z0 v0 = 1048576) (hQ : ∀  (Z' : jZ) (I' : jI) (L' : jL), WD Z' I' → BUD B Z' T → FR Ws_X7_keepEachCost Z0 I0 Z' I' → CP Z0 Z' → Q Z' I' L') : ∀ (n : Nat) (v4 : Int32) (v5 : Int32) (Z : jZ) (I : jI) (L : jL), WD Z I → BUD B Z T → FR Ws_X7_keepEachCost Z0 I0 Z I → CP Z0 Z →   ((0 ≤ v5.toInt) ∧ FI Z I v0 v1.toNatClampNeg) → v5.toInt < (n : Int) → f_X7_keepEachCost_L9 B  Q n v0 v1 v2 v3 v4 v5 Z I L := by
  intro n
  induction n with
  | zero =>
    intro v4 v5 Z I L w_I bd_Z q_I cp_Z   li  me
    exfalso
    omega
  | succ n ih =>
    intro v4 v5 Z I L w_I bd_Z q_I cp_Z   li  me
    unfold f_X7_keepEachCost_L9
    have rv4 := i_rng v4
    have rv5 := i_rng v5
    have rv1 := i_rng v1
    have rv2 := i_rng v2
    have rv3 := i_rng v3
    obtain ⟨li0, li1⟩ := li
    have kv0_0 := kv0
    have kv0 := (q_I.1 _ _ kv0).1
    have cpe := cp_Z v0 kv0_0
    have xq_I := q_I.1
    refine ⟨fun c1 => ?_, fun c1 => ?_⟩
    · skip
      first | (have t2 : v5.toInt ≤ (0) := (i_le rfl (show (0 : Int32).toInt = 0 from rfl)).mp c1) | (have t2 : v5.toInt ≤ (0 : Int32).toInt := (i_le rfl rfl).mp c1) | skip
      exact hQ  Z I L w_I bd_Z q_I cp_Z 
    · skip
      first | (have t3 : ¬ (v5.toInt ≤ (0)) := (not_congr (i_le rfl (show (0 : Int32).toInt = 0 from rfl))).mp c1) | (have t3 : ¬ (v5.toInt ≤ (0 : Int32).toInt) := (not_congr (i_le rfl rfl)).mp c1) | skip
      refine ⟨fun c4 => ?_, fun c4 => ?_⟩
      · skip
        first | (have t5 : v2.toInt < (0) := (i_lt rfl (show (0 : Int32).toInt = 0 from rfl)).mp c4) | (have t5 : v2.toInt < (0 : Int32).toInt := (i_lt rfl rfl).mp c4) | skip
        exact hQ  Z I L w_I bd_Z q_I cp_Z 
      · skip
        first | (have t6 : ¬ (v2.toInt < (0)) := (not_congr (i_lt rfl (show (0 : Int32).toInt = 0 from rfl))).mp c4) | (have t6 : ¬ (v2.toInt < (0 : Int32).toInt) := (not_congr (i_lt rfl rfl)).mp c4) | skip
        refine s_X7_take w_I v0 kv0   (fun r7 I9 L10 w_I9 f_I9 p8 => ?_)
        have q_I9 : FR Ws_X7_keepEachCost Z0 I0 Z I9 := q_I.trans w0.1 w0.2.1 (f_I9.mono (by decide))
        obtain ⟨p8_0, p8_1, p8_2⟩ := p8
        refine s_X11_costIn w_I9 r7    (fun r11  => ?_)
        have rr11 := i_rng r11
        refine ⟨fun c12 => ?_, fun c12 => ?_⟩
        · skip
          first | (have t13 : r11.toInt ≤ v3.toInt := (i_le rfl rfl).mp c12) | (have t13 : r11.toInt ≤ v3.toInt := (i_le rfl rfl).mp c12) | skip
          refine s_X11_effortIn w_I9 r7    (fun r14 p15 => ?_)
          have rr14 := i_rng r14
          refine ⟨fun c16 => ?_, fun c16 => ?_⟩
          · skip
            first | (have t17 : v2.toInt < r14.toInt := (i_lt rfl rfl).mp c16) | (have t17 : v2.toInt < r14.toInt := (i_lt rfl rfl).mp c16) | skip
            unfold f_X7_keepEachCost_b67
            intro x18 ex18
            have rx18 := i_rng x18
            first | (have tx18 : x18.toInt = v5.toInt + (-1) := by (rw [ex18]; exact (i_add rfl (show (-1 : Int32).toInt = -1 from rfl) (by omega) (by omega)))) | skip
            exact ih v4 x18 Z I9 L10 w_I9 bd_Z q_I9 cp_Z   (by refine ⟨?_, ?_⟩; (omega); (first | assumption | solve_by_elim))  (by omega)
          · skip
            first | (have t19 : ¬ (v2.toInt < r14.toInt) := (not_congr (i_lt rfl rfl)).mp c16) | (have t19 : ¬ (v2.toInt < r14.toInt) := (not_congr (i_lt rfl rfl)).mp c16) | skip
            refine s_X11_costIn w_I9 r7    (fun r20  => ?_)
            have rr20 := i_rng r20
            refine ⟨fun c21 => ?_, fun c21 => ?_⟩
            · skip
              first | (have t22 : r20.toInt = v4.toInt := (i_eq rfl rfl).mp c21) | (have t22 : r20.toInt = v4.toInt := (i_eq rfl rfl).mp c21) | skip
              unfold f_X7_keepEachCost_b67
              intro x23 ex23
              have rx23 := i_rng x23
              first | (have tx23 : x23.toInt = v5.toInt + (-1) := by (rw [ex23]; exact (i_add rfl (show (-1 : Int32).toInt = -1 from rfl) (by omega) (by omega)))) | skip
              exact ih v4 x23 Z I9 L10 w_I9 bd_Z q_I9 cp_Z   (by refine ⟨?_, ?_⟩; (omega); (first | assumption | solve_by_elim))  (by omega)
            · skip
              first | (have t24 : ¬ (r20.toInt = v4.toInt) := (not_congr (i_eq rfl rfl)).mp c21) | (have t24 : ¬ (r20.toInt = v4.toInt) := (not_congr (i_eq rfl rfl)).mp c21) | skip
              refine s_X7_push w_I9 bd_Z v0 v1 r7 kv0  (by omega) (by first | assumption | solve_by_elim | (simp only [*]; assumption)) (by omega) (fun  Z28 I26 L27 w_I26 bd_Z28 f_I26 c_Z28 p25 => ?_)
              have q_I26 : FR Ws_X7_keepEachCost Z0 I0 Z28 I26 := q_I9.trans w0.1 w0.2.1 (f_I26.mono (by decide))
              have cp_Z28 : CP Z0 Z28 := cp_Z.trans q_I9.1 c_Z28
              have x_Z28 := f_I26.1
              have k29 := (f_I26.1 _ _ kv0).1
              obtain ⟨p25_0, p25_1, p25_2, p25_3⟩ := p25
              refine s_X11_costIn w_I26 r7    (fun r30  => ?_)
              have rr30 := i_rng r30
              unfold f_X7_keepEachCost_b67
              intro x31 ex31
              have rx31 := i_rng x31
              first | (have tx31 : x31.toInt = v5.toInt + (-1) := by (rw [ex31]; exact (i_add rfl (show (-1 : Int32).toInt = -1 from rfl) (by omega) (by omega)))) | skip
              exact ih r30 x31 Z28 I26 L27 w_I26 bd_Z28 q_I26 cp_Z28   (by refine ⟨?_, ?_⟩; (omega); (first | assumption | solve_by_elim))  (by omega)
        · skip
          first | (have t32 : ¬ (r11.toInt ≤ v3.toInt) := (not_congr (i_le rfl rfl)).mp c12) | (have t32 : ¬ (r11.toInt ≤ v3.toInt) := (not_congr (i_le rfl rfl)).mp c12) | skip
          exact hQ  Z I9 L10 w_I9 bd_Z q_I9 cp_Z 
set_option maxHeartbeats 4000000 in
set_option maxRecDepth 100000 in
theorem s_X7_keepEachCost {B : Nat × Nat} {T : Nat} {Z : jZ} {I : jI} {L : jL} (w_I : WD Z I) (bd_Z : BUD B Z T) (v0 : Nat) (v1 : Int32) (v2 : Int32) (v3 : Int32) (kv0 : jk Z v0 7) (p0 : 0 ≤ v1.toInt ∧ v1.toInt ≤ 24) (p1 : FI Z I v0 v1.toNatClampNeg) (p2 : capN Z v0 = 1048576) {Q : jZ → jI → jL → Prop} (hQ : ∀  (Z' : jZ) (I' : jI) (L' : jL), WD Z' I' → BUD B Z' T → FR Ws_X7_keepEachCost Z I Z' I' → CP Z Z' → Q Z' I' L') : f_X7_keepEachCost B v0 v1 v2 v3 Z I L Q := by
  unfold f_X7_keepEachCost
  have q_I : FR Ws_X7_keepEachCost Z I Z I := FR.rf
  have cp_Z : CP Z Z := CP.rf
  have rv1 := i_rng v1
  have rv2 := i_rng v2
  have rv3 := i_rng v3
  have t33 := rw9 w_I kv0
  intro x34 ex34
  have rx34 := i_rng x34
  first | (have tx34 : x34.toInt = (I v0 9).toInt := by (rw [ex34]; exact rfl)) | (have tx34 : x34.toInt = (I v0 9).toInt := by rw [ex34])
  have t35 : (-1 : Int32).toInt = -1 := rfl
  exact ⟨(x34.toInt).toNat + 1, l_X7_keepEachCost_L9 w_I v0 v1 v2 v3 kv0 p0 p1 p2   hQ   _ (-1 : Int32) x34 Z I L w_I bd_Z q_I cp_Z   (by refine ⟨?_, ?_⟩; (omega); (first | assumption | solve_by_elim))  (by omega)⟩
def Ws_X0_firstAbove : List (Nat × Nat) := [(7, 1), (7, 2), (7, 3), (7, 4), (7, 5), (7, 8), (7, 9)]
set_option maxHeartbeats 4000000 in
set_option maxRecDepth 100000 in
theorem l_X0_firstAbove_L63 {B : Nat × Nat} {T : Nat} {Z0 : jZ} {I0 : jI} {Q : Int64 → jZ → jI → jL → Prop} (w0 : WD Z0 I0) (v0 : Nat) (v1 : Nat) (v2 : Int32) (kv0 : jk Z0 v0 0) (kv1 : jk Z0 v1 6) (u0 : Nat) (hu0 : jr Z0 v0 0 = some u0) (hQ : ∀ (r : Int64) (Z' : jZ) (I' : jI) (L' : jL), WD Z' I' → BUD B Z' T → FR Ws_X0_firstAbove Z0 I0 Z' I' → CP Z0 Z' → Q r Z' I' L') : ∀ (n : Nat) (v3 : Int32) (Z : jZ) (I : jI) (L : jL), WD Z I → BUD B Z T → FR Ws_X0_firstAbove Z0 I0 Z I → CP Z0 Z →   (0 ≤ v3.toInt ∧ v3.toInt ≤ 1048576) → 1048576 - v3.toInt < (n : Int) → f_X0_firstAbove_L63 B  Q n v0 v1 v2 v3 Z I L := by
  intro n
  induction n with
  | zero =>
    intro v3 Z I L w_I bd_Z q_I cp_Z   li  me
    exfalso
    omega
  | succ n ih =>
    intro v3 Z I L w_I bd_Z q_I cp_Z   li  me
    unfold f_X0_firstAbove_L63
    have rv3 := i_rng v3
    have rv2 := i_rng v2
    have kv0_0 := kv0
    have kv0 := (q_I.1 _ _ kv0).1
    have kv1_0 := kv1
    have kv1 := (q_I.1 _ _ kv1).1
    have hu0_1 : jr Z v0 0 = some u0 := (q_I.2.1 v0 0 0 kv0_0 (by decide) (by decide)).trans hu0
    have ku0 : jk Z u0 7 := by obtain ⟨b9, e9, k9⟩ := sh_o w_I.1 kv0 (j := 0) (k := 7) rfl; cases hu0_1.symm.trans e9; exact k9
    have cu0_9 := capN0 kv0 hu0_1
    have xq_I := q_I.1
    intro b1 eb1
    obtain rfl : u0 = b1 := Option.some.inj (hu0_1.symm.trans eb1)
    have t3 : 0 ≤ (I v1 15).toInt ∧ (I v1 15).toInt ≤ 24 := w_I.fld 6 15 kv1 (by decide)
    refine s_X7_sizeAt w_I u0 (I v1 15) ku0   (fun r4 p5 => ?_)
    obtain ⟨b6, eb6, kb6, lb6⟩ := sh_f w_I.1 ku0 (j := 1) (k := 14) (m := 25) rfl
    have t8 : 0 < r4.toInt → (0 ≤ (I v1 15).toInt ∧ (I v1 15).toInt ≤ 24 ∧ 0 ≤ (I b6 (I v1 15).toNatClampNeg).toInt ∧ (I b6 (I v1 15).toNatClampNeg).toInt + r4.toInt ≤ (I u0 3).toInt) := fun h9 => ⟨(p5.2.2 h9).1, (p5.2.2 h9).2.1, (p5.2.2 h9).2.2 _ eb6⟩
    have t9 := rw3 w_I ku0
    obtain ⟨p5_0, p5_1, p5_2⟩ := p5
    have rr4 := i_rng r4
    refine ⟨fun c10 => ?_, fun c10 => ?_⟩
    · skip
      first | (have t11 : r4.toInt ≤ v3.toInt := (i_le rfl rfl).mp c10) | (have t11 : r4.toInt ≤ v3.toInt := (i_le rfl rfl).mp c10) | skip
      exact hQ (9223372036854775807 : Int64) Z I L w_I bd_Z q_I cp_Z 
    · skip
      first | (have t12 : ¬ (r4.toInt ≤ v3.toInt) := (not_congr (i_le rfl rfl)).mp c10) | (have t12 : ¬ (r4.toInt ≤ v3.toInt) := (not_congr (i_le rfl rfl)).mp c10) | skip
      intro b13 eb13
      obtain rfl : u0 = b13 := Option.some.inj (hu0_1.symm.trans eb13)
      have t15 : 0 ≤ (I v1 15).toInt ∧ (I v1 15).toInt ≤ 24 := w_I.fld 6 15 kv1 (by decide)
      refine s_X7_keyAt w_I u0 (I v1 15) v3 ku0   (fun r16  => ?_)
      refine s_X11_costIn w_I r16    (fun r17  => ?_)
      have rr17 := i_rng r17
      refine ⟨fun c18 => ?_, fun c18 => ?_⟩
      · skip
        first | (have t19 : r17.toInt ≤ v2.toInt := (i_le rfl rfl).mp c18) | (have t19 : r17.toInt ≤ v2.toInt := (i_le rfl rfl).mp c18) | skip
        intro x20 ex20
        have rx20 := i_rng x20
        first | (have tx20 : x20.toInt = v3.toInt + (1) := by (rw [ex20]; exact (i_add rfl (show (1 : Int32).toInt = 1 from rfl) (by omega) (by omega)))) | skip
        exact ih x20 Z I L w_I bd_Z q_I cp_Z   (by omega)  (by omega)
      · skip
        first | (have t21 : ¬ (r17.toInt ≤ v2.toInt) := (not_congr (i_le rfl rfl)).mp c18) | (have t21 : ¬ (r17.toInt ≤ v2.toInt) := (not_congr (i_le rfl rfl)).mp c18) | skip
        exact hQ r16 Z I L w_I bd_Z q_I cp_Z 
set_option maxHeartbeats 4000000 in
set_option maxRecDepth 100000 in
theorem l_X0_firstAbove_L11 {B : Nat × Nat} {T : Nat} {Z0 : jZ} {I0 : jI} {Q : Int64 → jZ → jI → jL → Prop} (w0 : WD Z0 I0) (v0 : Nat) (v1 : Nat) (v2 : Int32) (kv0 : jk Z0 v0 0) (kv1 : jk Z0 v1 6) (u0 : Nat) (hu0 : jr Z0 v0 0 = some u0) (hQ : ∀ (r : Int64) (Z' : jZ) (I' : jI) (L' : jL), WD Z' I' → BUD B Z' T → FR Ws_X0_firstAbove Z0 I0 Z' I' → CP Z0 Z' → Q r Z' I' L') : ∀ (n : Nat) (v3 : Int32) (Z : jZ) (I : jI) (L : jL), WD Z I → BUD B Z T → FR Ws_X0_firstAbove Z0 I0 Z I → CP Z0 Z →   (1 ≤ v3.toInt ∧ v3.toInt ≤ 25) → 25 - v3.toInt < (n : Int) → f_X0_firstAbove_L11 B  Q n v0 v1 v2 v3 Z I L := by
  intro n
  induction n with
  | zero =>
    intro v3 Z I L w_I bd_Z q_I cp_Z   li  me
    exfalso
    omega
  | succ n ih =>
    intro v3 Z I L w_I bd_Z q_I cp_Z   li  me
    unfold f_X0_firstAbove_L11
    have rv3 := i_rng v3
    have rv2 := i_rng v2
    have kv0_0 := kv0
    have kv0 := (q_I.1 _ _ kv0).1
    have kv1_0 := kv1
    have kv1 := (q_I.1 _ _ kv1).1
    have hu0_1 : jr Z v0 0 = some u0 := (q_I.2.1 v0 0 0 kv0_0 (by decide) (by decide)).trans hu0
    have ku0 : jk Z u0 7 := by obtain ⟨b9, e9, k9⟩ := sh_o w_I.1 kv0 (j := 0) (k := 7) rfl; cases hu0_1.symm.trans e9; exact k9
    have cu0_9 := capN0 kv0 hu0_1
    have xq_I := q_I.1
    have t23 : 0 ≤ (I v1 15).toInt ∧ (I v1 15).toInt ≤ 24 := w_I.fld 6 15 kv1 (by decide)
    refine ⟨fun c24 => ?_, fun c24 => ?_⟩
    · skip
      first | (have t25 : (I v1 15).toInt < v3.toInt := (i_lt rfl rfl).mp c24) | (have t25 : (I v1 15).toInt < v3.toInt := (i_lt rfl rfl).mp c24) | skip
      have t26 : (0 : Int32).toInt = 0 := rfl
      exact ⟨(1048576 - (0 : Int32).toInt).toNat + 1, l_X0_firstAbove_L63 w0 v0 v1 v2 kv0_0 kv1_0 u0 hu0   hQ   _ (0 : Int32) Z I L w_I bd_Z q_I cp_Z   (by omega)  (by omega)⟩
    · skip
      first | (have t27 : ¬ ((I v1 15).toInt < v3.toInt) := (not_congr (i_lt rfl rfl)).mp c24) | (have t27 : ¬ ((I v1 15).toInt < v3.toInt) := (not_congr (i_lt rfl rfl)).mp c24) | skip
      intro b28 eb28
      obtain rfl : u0 = b28 := Option.some.inj (hu0_1.symm.trans eb28)
      have t29 : (-1 : Int32).toInt = -1 := rfl
      refine s_X6_feed w_I v1 u0 v3 (-536870912 : Int64) (-1 : Int32) kv1 ku0  (by omega) (fun  I31 L32 w_I31 f_I31 p30 => ?_)
      have q_I31 : FR Ws_X0_firstAbove Z0 I0 Z I31 := q_I.trans w0.1 w0.2.1 (f_I31.mono (by decide))
      have u33 : (I31 v1 15).toInt = (I v1 15).toInt := by rw [f_I31.2.2.1 v1 6 15 kv1 (by decide) (by decide)]
      obtain ⟨p30_0, p30_1, p30_2⟩ := p30
      intro b34 eb34
      obtain rfl : u0 = b34 := Option.some.inj (hu0_1.symm.trans eb34)
      intro b35 eb35
      obtain ⟨x36, ex36, kb35, lb35⟩ := sh_f w_I31.1 kv1 (j := 7) (k := 14) (m := 25) rfl
      cases eb35.symm.trans ex36
      have o37 : vp_in v3 25 := vi_of rfl (by omega) (by omega)
      refine ⟨o37, ?_⟩
      try (have t38 : ((I31 v1 1) - (I31 b35 v3.toNatClampNeg)).toInt = ((I31 v1 1).toInt - (I31 b35 v3.toNatClampNeg).toInt) := (i_sub rfl rfl (by omega) (by omega)))
      refine s_X7_keepEachCost w_I31 bd_Z u0 v3 ((I31 v1 1) - (I31 b35 v3.toNatClampNeg)) (I31 v1 2) ku0  (by omega) (by first | assumption | solve_by_elim | (simp only [*]; assumption)) (by omega) (fun  Z41 I39 L40 w_I39 bd_Z41 f_I39 c_Z41  => ?_)
      have q_I39 : FR Ws_X0_firstAbove Z0 I0 Z41 I39 := q_I31.trans w0.1 w0.2.1 (f_I39.mono (by decide))
      have cp_Z41 : CP Z0 Z41 := cp_Z.trans q_I31.1 c_Z41
      have x_Z41 := f_I39.1
      have k42 := (f_I39.1 _ _ kv0).1
      have k43 := (f_I39.1 _ _ kv1).1
      have k44 := (f_I39.1 _ _ ku0).1
      have k45 := (f_I39.1 _ _ kv0).1
      have e46 := (f_I39.2.1 v0 0 0 kv0 (by decide) (by decide)).trans hu0_1
      have k47 := (f_I39.1 _ _ kb35).1
      have l48 := (f_I39.1 _ _ kb35).2.trans lb35
      have k49 := (f_I39.1 _ _ kv1).1
      have e50 := (f_I39.2.1 v1 6 7 kv1 (by decide) (by decide)).trans eb35
      have u51 : (I39 v1 15).toInt = (I31 v1 15).toInt := by rw [f_I39.2.2.1 v1 6 15 kv1 (by decide) (by decide)]
      have u52 : (I39 v1 1).toInt = (I31 v1 1).toInt := by rw [f_I39.2.2.1 v1 6 1 kv1 (by decide) (by decide)]
      have u53 : (I39 v1 2).toInt = (I31 v1 2).toInt := by rw [f_I39.2.2.1 v1 6 2 kv1 (by decide) (by decide)]
      intro x54 ex54
      have rx54 := i_rng x54
      first | (have tx54 : x54.toInt = v3.toInt + (1) := by (rw [ex54]; exact (i_add rfl (show (1 : Int32).toInt = 1 from rfl) (by omega) (by omega)))) | skip
      exact ih x54 Z41 I39 L40 w_I39 bd_Z41 q_I39 cp_Z41   (by omega)  (by omega)
set_option maxHeartbeats 4000000 in
set_option maxRecDepth 100000 in
theorem s_X0_firstAbove {B : Nat × Nat} {T : Nat} {Z : jZ} {I : jI} {L : jL} (w_I : WD Z I) (bd_Z : BUD B Z T) (v0 : Nat) (v1 : Nat) (v2 : Int32) (kv0 : jk Z v0 0) (kv1 : jk Z v1 6) (u0 : Nat) (hu0 : jr Z v0 0 = some u0) {Q : Int64 → jZ → jI → jL → Prop} (hQ : ∀ (r : Int64) (Z' : jZ) (I' : jI) (L' : jL), WD Z' I' → BUD B Z' T → FR Ws_X0_firstAbove Z I Z' I' → CP Z Z' → Q r Z' I' L') : f_X0_firstAbove B v0 v1 v2 Z I L Q := by
  unfold f_X0_firstAbove
  have q_I : FR Ws_X0_firstAbove Z I Z I := FR.rf
  have cp_Z : CP Z Z := CP.rf
  have rv2 := i_rng v2
  have ku0 : jk Z u0 7 := by obtain ⟨b9, e9, k9⟩ := sh_o w_I.1 kv0 (j := 0) (k := 7) rfl; cases hu0.symm.trans e9; exact k9
  have cu0_9 := capN0 kv0 hu0
  intro b55 eb55
  obtain rfl : u0 = b55 := Option.some.inj (hu0.symm.trans eb55)
  have t56 : (0 : Int32).toInt = 0 := rfl
  refine s_X7_begin w_I bd_Z u0 (0 : Int32) (0 : Int64) ku0  (by omega) (fun  Z60 I58 L59 w_I58 bd_Z60 f_I58 c_Z60 p57 => ?_)
  have q_I58 : FR Ws_X0_firstAbove Z I Z60 I58 := q_I.trans w_I.1 w_I.2.1 (f_I58.mono (by decide))
  have cp_Z60 : CP Z Z60 := cp_Z.trans q_I.1 c_Z60
  have x_Z60 := f_I58.1
  have k61 := (f_I58.1 _ _ kv0).1
  have k62 := (f_I58.1 _ _ kv1).1
  have k63 := (f_I58.1 _ _ ku0).1
  have k64 := (f_I58.1 _ _ kv0).1
  have e65 := (f_I58.2.1 v0 0 0 kv0 (by decide) (by decide)).trans hu0
  obtain ⟨p57_0, p57_1⟩ := p57
  have t66 : (1 : Int32).toInt = 1 := rfl
  exact ⟨(25 - (1 : Int32).toInt).toNat + 1, l_X0_firstAbove_L11 w_I v0 v1 v2 kv0 kv1 u0 hu0   hQ   _ (1 : Int32) Z60 I58 L59 w_I58 bd_Z60 q_I58 cp_Z60   (by omega)  (by omega)⟩
def Ws_X7_pushSummed : List (Nat × Nat) := [(7, 1), (7, 2), (7, 3), (7, 4), (7, 5), (7, 8), (7, 9)]
set_option maxHeartbeats 4000000 in
set_option maxRecDepth 100000 in
theorem s_X7_pushSummed {B : Nat × Nat} {T : Nat} {Z : jZ} {I : jI} {L : jL} (w_I : WD Z I) (bd_Z : BUD B Z T) (v0 : Nat) (v1 : Int32) (v2 : Int64) (kv0 : jk Z v0 7) (p0 : 0 ≤ v1.toInt ∧ v1.toInt ≤ 24) (p1 : FI Z I v0 v1.toNatClampNeg) (p2 : capN Z v0 = 1048576 ∨ (I v0 3).toInt ≤ 98304) {Q : jZ → jI → jL → Prop} (hQ : ∀  (Z' : jZ) (I' : jI) (L' : jL), WD Z' I' → BUD B Z' T → FR Ws_X7_pushSummed Z I Z' I' → CP Z Z' → (FI Z' I' v0 v1.toNatClampNeg) → Q Z' I' L') : f_X7_pushSummed B v0 v1 v2 Z I L Q := by
  unfold f_X7_pushSummed
  have q_I : FR Ws_X7_pushSummed Z I Z I := FR.rf
  have cp_Z : CP Z Z := CP.rf
  have rv1 := i_rng v1
  refine s_X7_sizeAt w_I v0 v1 kv0   (fun r1 p2 => ?_)
  obtain ⟨b3, eb3, kb3, lb3⟩ := sh_f w_I.1 kv0 (j := 1) (k := 14) (m := 25) rfl
  have t5 : 0 < r1.toInt → (0 ≤ v1.toInt ∧ v1.toInt ≤ 24 ∧ 0 ≤ (I b3 v1.toNatClampNeg).toInt ∧ (I b3 v1.toNatClampNeg).toInt + r1.toInt ≤ (I v0 3).toInt) := fun h9 => ⟨(p2.2.2 h9).1, (p2.2.2 h9).2.1, (p2.2.2 h9).2.2 _ eb3⟩
  have t6 := rw3 w_I kv0
  obtain ⟨p2_0, p2_1, p2_2⟩ := p2
  have rr1 := i_rng r1
  refine ⟨fun c7 => ?_, fun c7 => ?_⟩
  · skip
    first | (have t8 : r1.toInt ≤ (0) := (i_le rfl (show (0 : Int32).toInt = 0 from rfl)).mp c7) | (have t8 : r1.toInt ≤ (0 : Int32).toInt := (i_le rfl rfl).mp c7) | skip
    unfold f_X7_pushSummed_b58
    refine s_X7_push w_I bd_Z v0 v1 v2 kv0  (by omega) (by first | assumption | solve_by_elim | (simp only [*]; assumption)) (by omega) (fun  Z12 I10 L11 w_I10 bd_Z12 f_I10 c_Z12 p9 => ?_)
    have q_I10 : FR Ws_X7_pushSummed Z I Z12 I10 := q_I.trans w_I.1 w_I.2.1 (f_I10.mono (by decide))
    have cp_Z12 : CP Z Z12 := cp_Z.trans q_I.1 c_Z12
    have x_Z12 := f_I10.1
    have k13 := (f_I10.1 _ _ kv0).1
    have k14 := (f_I10.1 _ _ kb3).1
    have l15 := (f_I10.1 _ _ kb3).2.trans lb3
    have k16 := (f_I10.1 _ _ kv0).1
    have e17 := (f_I10.2.1 v0 7 1 kv0 (by decide) (by decide)).trans eb3
    obtain ⟨p9_0, p9_1, p9_2, p9_3⟩ := p9
    exact hQ  Z12 I10 L11 w_I10 bd_Z12 q_I10 cp_Z12 (by assumption)
  · skip
    first | (have t18 : ¬ (r1.toInt ≤ (0)) := (not_congr (i_le rfl (show (0 : Int32).toInt = 0 from rfl))).mp c7) | (have t18 : ¬ (r1.toInt ≤ (0 : Int32).toInt) := (not_congr (i_le rfl rfl)).mp c7) | skip
    intro b19 eb19
    obtain ⟨x20, ex20, kb19⟩ := sh_o w_I.1 kv0 (j := 0) (k := 15) rfl
    cases eb19.symm.trans ex20
    have t21 := rw0 w_I kv0 eb19
    have t22 := rw3 w_I kv0
    have o23 : vp_in ((I v0 3) - (1 : Int32)) (jlen Z b19) := vi_of (i_sub rfl (show (1 : Int32).toInt = 1 from rfl) (by omega) (by omega)) (by omega) (by omega)
    refine ⟨o23, ?_⟩
    refine ⟨fun c24 => ?_, fun c24 => ?_⟩
    · skip
      first | (have t25 : ¬ ((lg_cmp ((L b19 ((I v0 3) - (1 : Int32)).toNatClampNeg) &&& (-536870912 : Int64)) (v2 &&& (-536870912 : Int64))).toInt = (0)) := (not_congr (i_eq rfl (show (0 : Int32).toInt = 0 from rfl))).mp c24) | (have t25 : ¬ ((lg_cmp ((L b19 ((I v0 3) - (1 : Int32)).toNatClampNeg) &&& (-536870912 : Int64)) (v2 &&& (-536870912 : Int64))).toInt = (0 : Int32).toInt) := (not_congr (i_eq rfl rfl)).mp c24) | skip
      unfold f_X7_pushSummed_b58
      refine s_X7_push w_I bd_Z v0 v1 v2 kv0  (by omega) (by first | assumption | solve_by_elim | (simp only [*]; assumption)) (by omega) (fun  Z29 I27 L28 w_I27 bd_Z29 f_I27 c_Z29 p26 => ?_)
      have q_I27 : FR Ws_X7_pushSummed Z I Z29 I27 := q_I.trans w_I.1 w_I.2.1 (f_I27.mono (by decide))
      have cp_Z29 : CP Z Z29 := cp_Z.trans q_I.1 c_Z29
      have x_Z29 := f_I27.1
      have k30 := (f_I27.1 _ _ kv0).1
      have k31 := (f_I27.1 _ _ kb3).1
      have l32 := (f_I27.1 _ _ kb3).2.trans lb3
      have k33 := (f_I27.1 _ _ kv0).1
      have e34 := (f_I27.2.1 v0 7 1 kv0 (by decide) (by decide)).trans eb3
      have k35 := (f_I27.1 _ _ kb19).1
      have l36 := (f_I27.1 _ _ kb19).2
      obtain ⟨p26_0, p26_1, p26_2, p26_3⟩ := p26
      exact hQ  Z29 I27 L28 w_I27 bd_Z29 q_I27 cp_Z29 (by assumption)
    · skip
      first | (have t37 : (lg_cmp ((L b19 ((I v0 3) - (1 : Int32)).toNatClampNeg) &&& (-536870912 : Int64)) (v2 &&& (-536870912 : Int64))).toInt = (0) := (i_eq rfl (show (0 : Int32).toInt = 0 from rfl)).mp c24) | (have t37 : (lg_cmp ((L b19 ((I v0 3) - (1 : Int32)).toNatClampNeg) &&& (-536870912 : Int64)) (v2 &&& (-536870912 : Int64))).toInt = (0 : Int32).toInt := (i_eq rfl rfl).mp c24) | skip
      intro b38 eb38
      obtain rfl : b19 = b38 := Option.some.inj (eb19.symm.trans eb38)
      have t39 := rw3 w_I kv0
      have o40 : vp_in ((I v0 3) - (1 : Int32)) (jlen Z b19) := vi_of (i_sub rfl (show (1 : Int32).toInt = 1 from rfl) (by omega) (by omega)) (by omega) (by omega)
      refine ⟨o40, ?_⟩
      have o41 : vp_in ((I v0 3) - (1 : Int32)) (jlen Z b19) := vi_of (i_sub rfl (show (1 : Int32).toInt = 1 from rfl) (by omega) (by omega)) (by omega) (by omega)
      refine ⟨o41, ?_⟩
      intro L42 eL42
      exact hQ  Z I L42 w_I bd_Z q_I cp_Z (by assumption)
def Ws_X0_keepOnTheWay : List (Nat × Nat) := [(7, 1), (7, 2), (7, 3), (7, 4), (7, 5), (7, 8), (7, 9)]
set_option maxHeartbeats 4000000 in
set_option maxRecDepth 100000 in
theorem l_X0_keepOnTheWay_L9 {B : Nat × Nat} {T : Nat} {Z0 : jZ} {I0 : jI} {Q : jZ → jI → jL → Prop} (w0 : WD Z0 I0) (v0 : Nat) (v1 : Int32) (v2 : Int32) (v3 : Int32) (kv0 : jk Z0 v0 0) (u0 : Nat) (hu0 : jr Z0 v0 0 = some u0) (p0 : 0 ≤ v1.toInt ∧ v1.toInt ≤ 24) (p1 : FI Z0 I0 u0 v1.toNatClampNeg) (hQ : ∀  (Z' : jZ) (I' : jI) (L' : jL), WD Z' I' → BUD B Z' T → FR Ws_X0_keepOnTheWay Z0 I0 Z' I' → CP Z0 Z' → Q Z' I' L') : ∀ (n : Nat) (v4 : Int32) (Z : jZ) (I : jI) (L : jL), WD Z I → BUD B Z T → FR Ws_X0_keepOnTheWay Z0 I0 Z I → CP Z0 Z →   ((0 ≤ v4.toInt) ∧ FI Z I u0 v1.toNatClampNeg) → v4.toInt < (n : Int) → f_X0_keepOnTheWay_L9 B  Q n v0 v1 v2 v3 v4 Z I L := by
  intro n
  induction n with
  | zero =>
    intro v4 Z I L w_I bd_Z q_I cp_Z   li  me
    exfalso
    omega
  | succ n ih =>
    intro v4 Z I L w_I bd_Z q_I cp_Z   li  me
    unfold f_X0_keepOnTheWay_L9
    have rv4 := i_rng v4
    have rv1 := i_rng v1
    have rv2 := i_rng v2
    have rv3 := i_rng v3
    obtain ⟨li0, li1⟩ := li
    have kv0_0 := kv0
    have kv0 := (q_I.1 _ _ kv0).1
    have cp0 := capN0 kv0 ((q_I.2.1 v0 0 0 kv0_0 (by decide) (by decide)).trans hu0)
    have hu0_1 : jr Z v0 0 = some u0 := (q_I.2.1 v0 0 0 kv0_0 (by decide) (by decide)).trans hu0
    have ku0 : jk Z u0 7 := by obtain ⟨b9, e9, k9⟩ := sh_o w_I.1 kv0 (j := 0) (k := 7) rfl; cases hu0_1.symm.trans e9; exact k9
    have cu0_9 := capN0 kv0 hu0_1
    have xq_I := q_I.1
    refine ⟨fun c1 => ?_, fun c1 => ?_⟩
    · skip
      first | (have t2 : v4.toInt ≤ (0) := (i_le rfl (show (0 : Int32).toInt = 0 from rfl)).mp c1) | (have t2 : v4.toInt ≤ (0 : Int32).toInt := (i_le rfl rfl).mp c1) | skip
      exact hQ  Z I L w_I bd_Z q_I cp_Z 
    · skip
      first | (have t3 : ¬ (v4.toInt ≤ (0)) := (not_congr (i_le rfl (show (0 : Int32).toInt = 0 from rfl))).mp c1) | (have t3 : ¬ (v4.toInt ≤ (0 : Int32).toInt) := (not_congr (i_le rfl rfl)).mp c1) | skip
      refine ⟨fun c4 => ?_, fun c4 => ?_⟩
      · skip
        first | (have t5 : v2.toInt < (0) := (i_lt rfl (show (0 : Int32).toInt = 0 from rfl)).mp c4) | (have t5 : v2.toInt < (0 : Int32).toInt := (i_lt rfl rfl).mp c4) | skip
        exact hQ  Z I L w_I bd_Z q_I cp_Z 
      · skip
        first | (have t6 : ¬ (v2.toInt < (0)) := (not_congr (i_lt rfl (show (0 : Int32).toInt = 0 from rfl))).mp c4) | (have t6 : ¬ (v2.toInt < (0 : Int32).toInt) := (not_congr (i_lt rfl rfl)).mp c4) | skip
        intro b7 eb7
        obtain rfl : u0 = b7 := Option.some.inj (hu0_1.symm.trans eb7)
        refine s_X7_take w_I u0 ku0   (fun r8 I10 L11 w_I10 f_I10 p9 => ?_)
        have q_I10 : FR Ws_X0_keepOnTheWay Z0 I0 Z I10 := q_I.trans w0.1 w0.2.1 (f_I10.mono (by decide))
        obtain ⟨p9_0, p9_1, p9_2⟩ := p9
        refine s_X11_costIn w_I10 r8    (fun r12  => ?_)
        have rr12 := i_rng r12
        intro x13 ex13
        have rx13 := i_rng x13
        first | (have tx13 : x13.toInt = (v3.toInt - r12.toInt) := by (rw [ex13]; exact (i_sub rfl rfl (by omega) (by omega)))) | (have tx13 : x13.toInt = (v3 - r12).toInt := by rw [ex13])
        refine ⟨fun c14 => ?_, fun c14 => ?_⟩
        · skip
          first | (have t15 : (0) ≤ x13.toInt := (i_le (show (0 : Int32).toInt = 0 from rfl) rfl).mp c14) | (have t15 : (0 : Int32).toInt ≤ x13.toInt := (i_le rfl rfl).mp c14) | skip
          refine s_X11_effortIn w_I10 r8    (fun r16 p17 => ?_)
          have rr16 := i_rng r16
          refine ⟨fun c18 => ?_, fun c18 => ?_⟩
          · skip
            first | (have t19 : v2.toInt < r16.toInt := (i_lt rfl rfl).mp c18) | (have t19 : v2.toInt < r16.toInt := (i_lt rfl rfl).mp c18) | skip
            unfold f_X0_keepOnTheWay_b71
            intro x20 ex20
            have rx20 := i_rng x20
            first | (have tx20 : x20.toInt = v4.toInt + (-1) := by (rw [ex20]; exact (i_add rfl (show (-1 : Int32).toInt = -1 from rfl) (by omega) (by omega)))) | skip
            exact ih x20 Z I10 L11 w_I10 bd_Z q_I10 cp_Z   (by refine ⟨?_, ?_⟩; (omega); (first | assumption | solve_by_elim))  (by omega)
          · skip
            first | (have t21 : ¬ (v2.toInt < r16.toInt) := (not_congr (i_lt rfl rfl)).mp c18) | (have t21 : ¬ (v2.toInt < r16.toInt) := (not_congr (i_lt rfl rfl)).mp c18) | skip
            refine s_X0_isInReach w_I10 v0 v1 x13 kv0  (by omega) (fun r22  => ?_)
            have rr22 := i_rng r22
            refine ⟨fun c23 => ?_, fun c23 => ?_⟩
            · skip
              first | (have t24 : r22.toInt = (0) := (i_eq rfl (show (0 : Int32).toInt = 0 from rfl)).mp c23) | (have t24 : r22.toInt = (0 : Int32).toInt := (i_eq rfl rfl).mp c23) | skip
              unfold f_X0_keepOnTheWay_b71
              intro x25 ex25
              have rx25 := i_rng x25
              first | (have tx25 : x25.toInt = v4.toInt + (-1) := by (rw [ex25]; exact (i_add rfl (show (-1 : Int32).toInt = -1 from rfl) (by omega) (by omega)))) | skip
              exact ih x25 Z I10 L11 w_I10 bd_Z q_I10 cp_Z   (by refine ⟨?_, ?_⟩; (omega); (first | assumption | solve_by_elim))  (by omega)
            · skip
              first | (have t26 : ¬ (r22.toInt = (0)) := (not_congr (i_eq rfl (show (0 : Int32).toInt = 0 from rfl))).mp c23) | (have t26 : ¬ (r22.toInt = (0 : Int32).toInt) := (not_congr (i_eq rfl rfl)).mp c23) | skip
              intro b27 eb27
              obtain rfl : u0 = b27 := Option.some.inj (hu0_1.symm.trans eb27)
              refine s_X7_pushSummed w_I10 bd_Z u0 v1 r8 ku0  (by omega) (by first | assumption | solve_by_elim | (simp only [*]; assumption)) (by omega) (fun  Z31 I29 L30 w_I29 bd_Z31 f_I29 c_Z31 p28 => ?_)
              have q_I29 : FR Ws_X0_keepOnTheWay Z0 I0 Z31 I29 := q_I10.trans w0.1 w0.2.1 (f_I29.mono (by decide))
              have cp_Z31 : CP Z0 Z31 := cp_Z.trans q_I10.1 c_Z31
              have x_Z31 := f_I29.1
              have k32 := (f_I29.1 _ _ kv0).1
              have k33 := (f_I29.1 _ _ ku0).1
              have k34 := (f_I29.1 _ _ kv0).1
              have e35 := (f_I29.2.1 v0 0 0 kv0 (by decide) (by decide)).trans hu0_1
              unfold f_X0_keepOnTheWay_b71
              intro x36 ex36
              have rx36 := i_rng x36
              first | (have tx36 : x36.toInt = v4.toInt + (-1) := by (rw [ex36]; exact (i_add rfl (show (-1 : Int32).toInt = -1 from rfl) (by omega) (by omega)))) | skip
              exact ih x36 Z31 I29 L30 w_I29 bd_Z31 q_I29 cp_Z31   (by refine ⟨?_, ?_⟩; (omega); (first | assumption | solve_by_elim))  (by omega)
        · skip
          first | (have t37 : ¬ ((0) ≤ x13.toInt) := (not_congr (i_le (show (0 : Int32).toInt = 0 from rfl) rfl)).mp c14) | (have t37 : ¬ ((0 : Int32).toInt ≤ x13.toInt) := (not_congr (i_le rfl rfl)).mp c14) | skip
          exact hQ  Z I10 L11 w_I10 bd_Z q_I10 cp_Z 
set_option maxHeartbeats 4000000 in
set_option maxRecDepth 100000 in
theorem s_X0_keepOnTheWay {B : Nat × Nat} {T : Nat} {Z : jZ} {I : jI} {L : jL} (w_I : WD Z I) (bd_Z : BUD B Z T) (v0 : Nat) (v1 : Int32) (v2 : Int32) (v3 : Int32) (kv0 : jk Z v0 0) (u0 : Nat) (hu0 : jr Z v0 0 = some u0) (p0 : 0 ≤ v1.toInt ∧ v1.toInt ≤ 24) (p1 : FI Z I u0 v1.toNatClampNeg) {Q : jZ → jI → jL → Prop} (hQ : ∀  (Z' : jZ) (I' : jI) (L' : jL), WD Z' I' → BUD B Z' T → FR Ws_X0_keepOnTheWay Z I Z' I' → CP Z Z' → Q Z' I' L') : f_X0_keepOnTheWay B v0 v1 v2 v3 Z I L Q := by
  unfold f_X0_keepOnTheWay
  have q_I : FR Ws_X0_keepOnTheWay Z I Z I := FR.rf
  have cp_Z : CP Z Z := CP.rf
  have rv1 := i_rng v1
  have rv2 := i_rng v2
  have rv3 := i_rng v3
  have ku0 : jk Z u0 7 := by obtain ⟨b9, e9, k9⟩ := sh_o w_I.1 kv0 (j := 0) (k := 7) rfl; cases hu0.symm.trans e9; exact k9
  have cu0_9 := capN0 kv0 hu0
  intro b38 eb38
  obtain rfl : u0 = b38 := Option.some.inj (hu0.symm.trans eb38)
  have t39 := rw9 w_I ku0
  intro x40 ex40
  have rx40 := i_rng x40
  first | (have tx40 : x40.toInt = (I u0 9).toInt := by (rw [ex40]; exact rfl)) | (have tx40 : x40.toInt = (I u0 9).toInt := by rw [ex40])
  exact ⟨(x40.toInt).toNat + 1, l_X0_keepOnTheWay_L9 w_I v0 v1 v2 v3 kv0 u0 hu0 p0 p1   hQ   _ x40 Z I L w_I bd_Z q_I cp_Z   (by refine ⟨?_, ?_⟩; (omega); (first | assumption | solve_by_elim))  (by omega)⟩
def Ws_X0_tally : List (Nat × Nat) := [(7, 1), (7, 2), (7, 3), (7, 4), (7, 5), (7, 8), (7, 9)]
set_option maxHeartbeats 4000000 in
set_option maxRecDepth 100000 in
theorem l_X0_tally_L106 {B : Nat × Nat} {T : Nat} {Z0 : jZ} {I0 : jI} {Q : Int64 → jZ → jI → jL → Prop} (w0 : WD Z0 I0) (v0 : Nat) (v1 : Nat) (v2 : Int32) (v3 : Int32) (kv0 : jk Z0 v0 0) (kv1 : jk Z0 v1 6) (u0 : Nat) (hu0 : jr Z0 v0 0 = some u0) (hQ : ∀ (r : Int64) (Z' : jZ) (I' : jI) (L' : jL), WD Z' I' → BUD B Z' T → FR Ws_X0_tally Z0 I0 Z' I' → CP Z0 Z' → Q r Z' I' L') : ∀ (n : Nat) (v4 : Int64) (v6 : Int32) (Z : jZ) (I : jI) (L : jL), WD Z I → BUD B Z T → FR Ws_X0_tally Z0 I0 Z I → CP Z0 Z →   (0 ≤ v6.toInt ∧ v6.toInt ≤ 1048576) → 1048576 - v6.toInt < (n : Int) → f_X0_tally_L106 B  Q n v0 v1 v4 v6 Z I L := by
  intro n
  induction n with
  | zero =>
    intro v4 v6 Z I L w_I bd_Z q_I cp_Z   li  me
    exfalso
    omega
  | succ n ih =>
    intro v4 v6 Z I L w_I bd_Z q_I cp_Z   li  me
    unfold f_X0_tally_L106
    have rv6 := i_rng v6
    have rv2 := i_rng v2
    have rv3 := i_rng v3
    have kv0_0 := kv0
    have kv0 := (q_I.1 _ _ kv0).1
    have kv1_0 := kv1
    have kv1 := (q_I.1 _ _ kv1).1
    have hu0_1 : jr Z v0 0 = some u0 := (q_I.2.1 v0 0 0 kv0_0 (by decide) (by decide)).trans hu0
    have ku0 : jk Z u0 7 := by obtain ⟨b9, e9, k9⟩ := sh_o w_I.1 kv0 (j := 0) (k := 7) rfl; cases hu0_1.symm.trans e9; exact k9
    have cu0_9 := capN0 kv0 hu0_1
    have xq_I := q_I.1
    intro b1 eb1
    obtain rfl : u0 = b1 := Option.some.inj (hu0_1.symm.trans eb1)
    have t3 : 0 ≤ (I v1 15).toInt ∧ (I v1 15).toInt ≤ 24 := w_I.fld 6 15 kv1 (by decide)
    refine s_X7_sizeAt w_I u0 (I v1 15) ku0   (fun r4 p5 => ?_)
    obtain ⟨b6, eb6, kb6, lb6⟩ := sh_f w_I.1 ku0 (j := 1) (k := 14) (m := 25) rfl
    have t8 : 0 < r4.toInt → (0 ≤ (I v1 15).toInt ∧ (I v1 15).toInt ≤ 24 ∧ 0 ≤ (I b6 (I v1 15).toNatClampNeg).toInt ∧ (I b6 (I v1 15).toNatClampNeg).toInt + r4.toInt ≤ (I u0 3).toInt) := fun h9 => ⟨(p5.2.2 h9).1, (p5.2.2 h9).2.1, (p5.2.2 h9).2.2 _ eb6⟩
    have t9 := rw3 w_I ku0
    obtain ⟨p5_0, p5_1, p5_2⟩ := p5
    have rr4 := i_rng r4
    refine ⟨fun c10 => ?_, fun c10 => ?_⟩
    · skip
      first | (have t11 : r4.toInt ≤ v6.toInt := (i_le rfl rfl).mp c10) | (have t11 : r4.toInt ≤ v6.toInt := (i_le rfl rfl).mp c10) | skip
      exact hQ v4 Z I L w_I bd_Z q_I cp_Z 
    · skip
      first | (have t12 : ¬ (r4.toInt ≤ v6.toInt) := (not_congr (i_le rfl rfl)).mp c10) | (have t12 : ¬ (r4.toInt ≤ v6.toInt) := (not_congr (i_le rfl rfl)).mp c10) | skip
      intro b13 eb13
      obtain rfl : u0 = b13 := Option.some.inj (hu0_1.symm.trans eb13)
      have t15 : 0 ≤ (I v1 15).toInt ∧ (I v1 15).toInt ≤ 24 := w_I.fld 6 15 kv1 (by decide)
      refine s_X7_keyAt w_I u0 (I v1 15) v6 ku0   (fun r16  => ?_)
      intro x17 ex17
      intro x18 ex18
      refine ⟨fun c19 => ?_, fun c19 => ?_⟩
      · skip
        first | (have t20 : ¬ (v6.toInt = (0)) := (not_congr (i_eq rfl (show (0 : Int32).toInt = 0 from rfl))).mp c19) | (have t20 : ¬ (v6.toInt = (0 : Int32).toInt) := (not_congr (i_eq rfl rfl)).mp c19) | skip
        unfold f_X0_tally_b163
        intro L21 eL21
        intro x22 ex22
        have rx22 := i_rng x22
        first | (have tx22 : x22.toInt = v6.toInt + (1) := by (rw [ex22]; exact (i_add rfl (show (1 : Int32).toInt = 1 from rfl) (by omega) (by omega)))) | skip
        exact ih x18 x22 Z I L21 w_I bd_Z q_I cp_Z   (by omega)  (by omega)
      · skip
        first | (have t23 : v6.toInt = (0) := (i_eq rfl (show (0 : Int32).toInt = 0 from rfl)).mp c19) | (have t23 : v6.toInt = (0 : Int32).toInt := (i_eq rfl rfl).mp c19) | skip
        unfold f_X0_tally_b163
        intro L24 eL24
        intro x25 ex25
        have rx25 := i_rng x25
        first | (have tx25 : x25.toInt = v6.toInt + (1) := by (rw [ex25]; exact (i_add rfl (show (1 : Int32).toInt = 1 from rfl) (by omega) (by omega)))) | skip
        exact ih x18 x25 Z I L24 w_I bd_Z q_I cp_Z   (by omega)  (by omega)
set_option maxHeartbeats 4000000 in
set_option maxRecDepth 100000 in
theorem l_X0_tally_L52 {B : Nat × Nat} {T : Nat} {Z0 : jZ} {I0 : jI} {Q : Int64 → jZ → jI → jL → Prop} (w0 : WD Z0 I0) (v0 : Nat) (v1 : Nat) (v2 : Int32) (v3 : Int32) (kv0 : jk Z0 v0 0) (kv1 : jk Z0 v1 6) (u0 : Nat) (hu0 : jr Z0 v0 0 = some u0) (hQ : ∀ (r : Int64) (Z' : jZ) (I' : jI) (L' : jL), WD Z' I' → BUD B Z' T → FR Ws_X0_tally Z0 I0 Z' I' → CP Z0 Z' → Q r Z' I' L') : ∀ (n : Nat) (v4 : Int32) (Z : jZ) (I : jI) (L : jL), WD Z I → BUD B Z T → FR Ws_X0_tally Z0 I0 Z I → CP Z0 Z →   (1 ≤ v4.toInt ∧ v4.toInt ≤ 25) → 25 - v4.toInt < (n : Int) → f_X0_tally_L52 B  Q n v0 v1 v2 v3 v4 Z I L := by
  intro n
  induction n with
  | zero =>
    intro v4 Z I L w_I bd_Z q_I cp_Z   li  me
    exfalso
    omega
  | succ n ih =>
    intro v4 Z I L w_I bd_Z q_I cp_Z   li  me
    unfold f_X0_tally_L52
    have rv4 := i_rng v4
    have rv2 := i_rng v2
    have rv3 := i_rng v3
    have kv0_0 := kv0
    have kv0 := (q_I.1 _ _ kv0).1
    have kv1_0 := kv1
    have kv1 := (q_I.1 _ _ kv1).1
    have hu0_1 : jr Z v0 0 = some u0 := (q_I.2.1 v0 0 0 kv0_0 (by decide) (by decide)).trans hu0
    have ku0 : jk Z u0 7 := by obtain ⟨b9, e9, k9⟩ := sh_o w_I.1 kv0 (j := 0) (k := 7) rfl; cases hu0_1.symm.trans e9; exact k9
    have cu0_9 := capN0 kv0 hu0_1
    have xq_I := q_I.1
    have t27 : 0 ≤ (I v1 15).toInt ∧ (I v1 15).toInt ≤ 24 := w_I.fld 6 15 kv1 (by decide)
    refine ⟨fun c28 => ?_, fun c28 => ?_⟩
    · skip
      first | (have t29 : (I v1 15).toInt < v4.toInt := (i_lt rfl rfl).mp c28) | (have t29 : (I v1 15).toInt < v4.toInt := (i_lt rfl rfl).mp c28) | skip
      have t30 : (0 : Int32).toInt = 0 := rfl
      exact ⟨(1048576 - (0 : Int32).toInt).toNat + 1, l_X0_tally_L106 w0 v0 v1 v2 v3 kv0_0 kv1_0 u0 hu0   hQ   _ (0 : Int64) (0 : Int32) Z I L w_I bd_Z q_I cp_Z   (by omega)  (by omega)⟩
    · skip
      first | (have t31 : ¬ ((I v1 15).toInt < v4.toInt) := (not_congr (i_lt rfl rfl)).mp c28) | (have t31 : ¬ ((I v1 15).toInt < v4.toInt) := (not_congr (i_lt rfl rfl)).mp c28) | skip
      intro b32 eb32
      obtain rfl : u0 = b32 := Option.some.inj (hu0_1.symm.trans eb32)
      refine s_X6_feed w_I v1 u0 v4 (-536870912 : Int64) v3 kv1 ku0  (by omega) (fun  I34 L35 w_I34 f_I34 p33 => ?_)
      have q_I34 : FR Ws_X0_tally Z0 I0 Z I34 := q_I.trans w0.1 w0.2.1 (f_I34.mono (by decide))
      have u36 : (I34 v1 15).toInt = (I v1 15).toInt := by rw [f_I34.2.2.1 v1 6 15 kv1 (by decide) (by decide)]
      obtain ⟨p33_0, p33_1, p33_2⟩ := p33
      intro b37 eb37
      obtain ⟨x38, ex38, kb37, lb37⟩ := sh_f w_I34.1 kv1 (j := 7) (k := 14) (m := 25) rfl
      cases eb37.symm.trans ex38
      have o39 : vp_in v4 25 := vi_of rfl (by omega) (by omega)
      refine ⟨o39, ?_⟩
      try (have t40 : ((I34 v1 1) - (I34 b37 v4.toNatClampNeg)).toInt = ((I34 v1 1).toInt - (I34 b37 v4.toNatClampNeg).toInt) := (i_sub rfl rfl (by omega) (by omega)))
      refine s_X0_keepOnTheWay w_I34 bd_Z v0 v4 ((I34 v1 1) - (I34 b37 v4.toNatClampNeg)) v2 kv0 u0 hu0_1 (by omega) (by first | assumption | solve_by_elim | (simp only [*]; assumption)) (fun  Z43 I41 L42 w_I41 bd_Z43 f_I41 c_Z43  => ?_)
      have q_I41 : FR Ws_X0_tally Z0 I0 Z43 I41 := q_I34.trans w0.1 w0.2.1 (f_I41.mono (by decide))
      have cp_Z43 : CP Z0 Z43 := cp_Z.trans q_I34.1 c_Z43
      have x_Z43 := f_I41.1
      have k44 := (f_I41.1 _ _ kv0).1
      have k45 := (f_I41.1 _ _ kv1).1
      have k46 := (f_I41.1 _ _ ku0).1
      have k47 := (f_I41.1 _ _ kv0).1
      have e48 := (f_I41.2.1 v0 0 0 kv0 (by decide) (by decide)).trans hu0_1
      have k49 := (f_I41.1 _ _ kb37).1
      have l50 := (f_I41.1 _ _ kb37).2.trans lb37
      have k51 := (f_I41.1 _ _ kv1).1
      have e52 := (f_I41.2.1 v1 6 7 kv1 (by decide) (by decide)).trans eb37
      have u53 : (I41 v1 15).toInt = (I34 v1 15).toInt := by rw [f_I41.2.2.1 v1 6 15 kv1 (by decide) (by decide)]
      have u54 : (I41 v1 1).toInt = (I34 v1 1).toInt := by rw [f_I41.2.2.1 v1 6 1 kv1 (by decide) (by decide)]
      intro x55 ex55
      have rx55 := i_rng x55
      first | (have tx55 : x55.toInt = v4.toInt + (1) := by (rw [ex55]; exact (i_add rfl (show (1 : Int32).toInt = 1 from rfl) (by omega) (by omega)))) | skip
      exact ih x55 Z43 I41 L42 w_I41 bd_Z43 q_I41 cp_Z43   (by omega)  (by omega)
set_option maxHeartbeats 4000000 in
set_option maxRecDepth 100000 in
theorem s_X0_tally {B : Nat × Nat} {T : Nat} {Z : jZ} {I : jI} {L : jL} (w_I : WD Z I) (bd_Z : BUD B Z T) (v0 : Nat) (v1 : Nat) (v2 : Int32) (v3 : Int32) (kv0 : jk Z v0 0) (kv1 : jk Z v1 6) (u0 : Nat) (hu0 : jr Z v0 0 = some u0) {Q : Int64 → jZ → jI → jL → Prop} (hQ : ∀ (r : Int64) (Z' : jZ) (I' : jI) (L' : jL), WD Z' I' → BUD B Z' T → FR Ws_X0_tally Z I Z' I' → CP Z Z' → Q r Z' I' L') : f_X0_tally B v0 v1 v2 v3 Z I L Q := by
  unfold f_X0_tally
  have q_I : FR Ws_X0_tally Z I Z I := FR.rf
  have cp_Z : CP Z Z := CP.rf
  have rv2 := i_rng v2
  have rv3 := i_rng v3
  have ku0 : jk Z u0 7 := by obtain ⟨b9, e9, k9⟩ := sh_o w_I.1 kv0 (j := 0) (k := 7) rfl; cases hu0.symm.trans e9; exact k9
  have cu0_9 := capN0 kv0 hu0
  intro L56 eL56
  have t58 : 0 ≤ (I v1 15).toInt ∧ (I v1 15).toInt ≤ 24 := w_I.fld 6 15 kv1 (by decide)
  refine ⟨fun c59 => ?_, fun c59 => ?_⟩
  · skip
    first | (have t60 : (I v1 15).toInt = (0) := (i_eq rfl (show (0 : Int32).toInt = 0 from rfl)).mp c59) | (have t60 : (I v1 15).toInt = (0 : Int32).toInt := (i_eq rfl rfl).mp c59) | skip
    unfold f_X0_tally_b33
    exact hQ (0 : Int64) Z I L56 w_I bd_Z q_I cp_Z 
  · skip
    first | (have t61 : ¬ ((I v1 15).toInt = (0)) := (not_congr (i_eq rfl (show (0 : Int32).toInt = 0 from rfl))).mp c59) | (have t61 : ¬ ((I v1 15).toInt = (0 : Int32).toInt) := (not_congr (i_eq rfl rfl)).mp c59) | skip
    refine ⟨fun c62 => ?_, fun c62 => ?_⟩
    · skip
      first | (have t63 : (I v1 2).toInt < v2.toInt := (i_lt rfl rfl).mp c62) | (have t63 : (I v1 2).toInt < v2.toInt := (i_lt rfl rfl).mp c62) | skip
      unfold f_X0_tally_b33
      exact hQ (0 : Int64) Z I L56 w_I bd_Z q_I cp_Z 
    · skip
      first | (have t64 : ¬ ((I v1 2).toInt < v2.toInt) := (not_congr (i_lt rfl rfl)).mp c62) | (have t64 : ¬ ((I v1 2).toInt < v2.toInt) := (not_congr (i_lt rfl rfl)).mp c62) | skip
      intro b65 eb65
      obtain ⟨x66, ex66, kb65, lb65⟩ := sh_f w_I.1 kv1 (j := 7) (k := 14) (m := 25) rfl
      cases eb65.symm.trans ex66
      refine ⟨fun c67 => ?_, fun c67 => ?_⟩
      · skip
        first | (have t68 : (I b65 (0 : Int32).toNatClampNeg).toInt ≤ (I v1 1).toInt := (i_le rfl rfl).mp c67) | (have t68 : (I b65 (0 : Int32).toNatClampNeg).toInt ≤ (I v1 1).toInt := (i_le rfl rfl).mp c67) | skip
        refine s_X0_findReach w_I v0 v1 kv0 kv1   (fun  I69 L70 w_I69 f_I69  => ?_)
        have q_I69 : FR Ws_X0_tally Z I Z I69 := q_I.trans w_I.1 w_I.2.1 (f_I69.mono (by decide))
        have u71 : (I69 u0 3).toInt = (I u0 3).toInt := by rw [f_I69.2.2.1 u0 7 3 ku0 (by decide) (by decide)]
        have u72 : (I69 v1 15).toInt = (I v1 15).toInt := by rw [f_I69.2.2.1 v1 6 15 kv1 (by decide) (by decide)]
        have u73 : (I69 v1 2).toInt = (I v1 2).toInt := by rw [f_I69.2.2.1 v1 6 2 kv1 (by decide) (by decide)]
        have u74 : (I69 v1 1).toInt = (I v1 1).toInt := by rw [f_I69.2.2.1 v1 6 1 kv1 (by decide) (by decide)]
        intro b75 eb75
        obtain rfl : u0 = b75 := Option.some.inj (hu0.symm.trans eb75)
        have t76 : (0 : Int32).toInt = 0 := rfl
        refine s_X7_begin w_I69 bd_Z u0 (0 : Int32) (1 : Int64) ku0  (by omega) (fun  Z80 I78 L79 w_I78 bd_Z80 f_I78 c_Z80 p77 => ?_)
        have q_I78 : FR Ws_X0_tally Z I Z80 I78 := q_I69.trans w_I.1 w_I.2.1 (f_I78.mono (by decide))
        have cp_Z80 : CP Z Z80 := cp_Z.trans q_I69.1 c_Z80
        have x_Z80 := f_I78.1
        have k81 := (f_I78.1 _ _ kv0).1
        have k82 := (f_I78.1 _ _ kv1).1
        have k83 := (f_I78.1 _ _ ku0).1
        have k84 := (f_I78.1 _ _ kv0).1
        have e85 := (f_I78.2.1 v0 0 0 kv0 (by decide) (by decide)).trans hu0
        have k86 := (f_I78.1 _ _ kb65).1
        have l87 := (f_I78.1 _ _ kb65).2.trans lb65
        have k88 := (f_I78.1 _ _ kv1).1
        have e89 := (f_I78.2.1 v1 6 7 kv1 (by decide) (by decide)).trans eb65
        have u90 : (I78 v1 15).toInt = (I69 v1 15).toInt := by rw [f_I78.2.2.1 v1 6 15 kv1 (by decide) (by decide)]
        have u91 : (I78 v1 2).toInt = (I69 v1 2).toInt := by rw [f_I78.2.2.1 v1 6 2 kv1 (by decide) (by decide)]
        have u92 : (I78 v1 1).toInt = (I69 v1 1).toInt := by rw [f_I78.2.2.1 v1 6 1 kv1 (by decide) (by decide)]
        obtain ⟨p77_0, p77_1⟩ := p77
        have t93 : (1 : Int32).toInt = 1 := rfl
        exact ⟨(25 - (1 : Int32).toInt).toNat + 1, l_X0_tally_L52 w_I v0 v1 v2 v3 kv0 kv1 u0 hu0   hQ   _ (1 : Int32) Z80 I78 L79 w_I78 bd_Z80 q_I78 cp_Z80   (by omega)  (by omega)⟩
      · skip
        first | (have t94 : ¬ ((I b65 (0 : Int32).toNatClampNeg).toInt ≤ (I v1 1).toInt) := (not_congr (i_le rfl rfl)).mp c67) | (have t94 : ¬ ((I b65 (0 : Int32).toNatClampNeg).toInt ≤ (I v1 1).toInt) := (not_congr (i_le rfl rfl)).mp c67) | skip
        unfold f_X0_tally_b33
        exact hQ (0 : Int64) Z I L56 w_I bd_Z q_I cp_Z 
def Ws_X6_raiseOne : List (Nat × Nat) := [(7, 1), (7, 2), (7, 3), (7, 4), (7, 5), (7, 8), (7, 9)]
set_option maxHeartbeats 4000000 in
set_option maxRecDepth 100000 in
theorem s_X6_raiseOne {B : Nat × Nat} {T : Nat} {Z : jZ} {I : jI} {L : jL} (w_I : WD Z I) (bd_Z : BUD B Z T) (v0 : Nat) (v1 : Int32) (kv0 : jk Z v0 6) (u9 : Nat) (hu9 : jr Z v0 9 = some u9) (p0 : (I u9 3).toInt ≤ 94209) {Q : jZ → jI → jL → Prop} (hQ : ∀  (Z' : jZ) (I' : jI) (L' : jL), WD Z' I' → BUD B Z' T → FR Ws_X6_raiseOne Z I Z' I' → CP Z Z' → ((I' u9 3).toInt ≤ (I u9 3).toInt + 4096 ∧ RO u9 Z I I') → Q Z' I' L') : f_X6_raiseOne B v0 v1 Z I L Q := by
  unfold f_X6_raiseOne
  have q_I : FR Ws_X6_raiseOne Z I Z I := FR.rf
  have ro_I : RO u9 Z I I := RO.rf
  have cp_Z : CP Z Z := CP.rf
  have rv1 := i_rng v1
  have ku9 : jk Z u9 7 := by obtain ⟨b9, e9, k9⟩ := sh_o w_I.1 kv0 (j := 9) (k := 7) rfl; cases hu9.symm.trans e9; exact k9
  refine ⟨fun c1 => ?_, fun c1 => ?_⟩
  · skip
    first | (have t2 : v1.toInt ≤ (0) := (i_le rfl (show (0 : Int32).toInt = 0 from rfl)).mp c1) | (have t2 : v1.toInt ≤ (0 : Int32).toInt := (i_le rfl rfl).mp c1) | skip
    exact hQ  Z I L w_I bd_Z q_I cp_Z (by refine ⟨?_, ?_⟩; (omega); exact ro_I)
  · skip
    first | (have t3 : ¬ (v1.toInt ≤ (0)) := (not_congr (i_le rfl (show (0 : Int32).toInt = 0 from rfl))).mp c1) | (have t3 : ¬ (v1.toInt ≤ (0 : Int32).toInt) := (not_congr (i_le rfl rfl)).mp c1) | skip
    have t5 : 0 ≤ (I v0 15).toInt ∧ (I v0 15).toInt ≤ 24 := w_I.fld 6 15 kv0 (by decide)
    refine ⟨fun c6 => ?_, fun c6 => ?_⟩
    · skip
      first | (have t7 : (I v0 15).toInt < v1.toInt := (i_lt rfl rfl).mp c6) | (have t7 : (I v0 15).toInt < v1.toInt := (i_lt rfl rfl).mp c6) | skip
      exact hQ  Z I L w_I bd_Z q_I cp_Z (by refine ⟨?_, ?_⟩; (omega); exact ro_I)
    · skip
      first | (have t8 : ¬ ((I v0 15).toInt < v1.toInt) := (not_congr (i_lt rfl rfl)).mp c6) | (have t8 : ¬ ((I v0 15).toInt < v1.toInt) := (not_congr (i_lt rfl rfl)).mp c6) | skip
      intro b9 eb9
      obtain rfl : u9 = b9 := Option.some.inj (hu9.symm.trans eb9)
      have t10 : (-1 : Int32).toInt = -1 := rfl
      refine s_X6_feed w_I v0 u9 v1 (-1 : Int64) (-1 : Int32) kv0 ku9  (by omega) (fun  I12 L13 w_I12 f_I12 p11 => ?_)
      have q_I12 : FR Ws_X6_raiseOne Z I Z I12 := q_I.trans w_I.1 w_I.2.1 (f_I12.mono (by decide))
      have u14 : (I12 v0 15).toInt = (I v0 15).toInt := by rw [f_I12.2.2.1 v0 6 15 kv0 (by decide) (by decide)]
      obtain ⟨p11_0, p11_1, p11_2⟩ := p11
      have ro_I12 : RO u9 Z I I12 := RO.trans q_I.1 ro_I p11_2
      intro b15 eb15
      obtain rfl : u9 = b15 := Option.some.inj (hu9.symm.trans eb15)
      intro b16 eb16
      obtain ⟨x17, ex17, kb16, lb16⟩ := sh_f w_I12.1 kv0 (j := 7) (k := 14) (m := 25) rfl
      cases eb16.symm.trans ex17
      have o18 : vp_in v1 25 := vi_of rfl (by omega) (by omega)
      refine ⟨o18, ?_⟩
      try (have t19 : ((I12 v0 1) - (I12 b16 v1.toNatClampNeg)).toInt = ((I12 v0 1).toInt - (I12 b16 v1.toNatClampNeg).toInt) := (i_sub rfl rfl (by omega) (by omega)))
      refine s_X7_keepCheapest w_I12 bd_Z u9 v1 ((I12 v0 1) - (I12 b16 v1.toNatClampNeg)) (I12 v0 2) ku9  (by omega) (by first | assumption | solve_by_elim | (simp only [*]; assumption)) (by omega) (fun  Z23 I21 L22 w_I21 bd_Z23 f_I21 c_Z23 p20 => ?_)
      have q_I21 : FR Ws_X6_raiseOne Z I Z23 I21 := q_I12.trans w_I.1 w_I.2.1 (f_I21.mono (by decide))
      have cp_Z23 : CP Z Z23 := cp_Z.trans q_I12.1 c_Z23
      have x_Z23 := f_I21.1
      have k24 := (f_I21.1 _ _ kv0).1
      have k25 := (f_I21.1 _ _ ku9).1
      have k26 := (f_I21.1 _ _ kv0).1
      have e27 := (f_I21.2.1 v0 6 9 kv0 (by decide) (by decide)).trans hu9
      have k28 := (f_I21.1 _ _ kb16).1
      have l29 := (f_I21.1 _ _ kb16).2.trans lb16
      have k30 := (f_I21.1 _ _ kv0).1
      have e31 := (f_I21.2.1 v0 6 7 kv0 (by decide) (by decide)).trans eb16
      have u32 : (I21 v0 15).toInt = (I12 v0 15).toInt := by rw [f_I21.2.2.1 v0 6 15 kv0 (by decide) (by decide)]
      have u33 : (I21 v0 1).toInt = (I12 v0 1).toInt := by rw [f_I21.2.2.1 v0 6 1 kv0 (by decide) (by decide)]
      have u34 : (I21 v0 2).toInt = (I12 v0 2).toInt := by rw [f_I21.2.2.1 v0 6 2 kv0 (by decide) (by decide)]
      obtain ⟨p20_0, p20_1⟩ := p20
      have ro_I21 : RO u9 Z I I21 := RO.trans q_I12.1 ro_I12 p20_1
      exact hQ  Z23 I21 L22 w_I21 bd_Z23 q_I21 cp_Z23 (by refine ⟨?_, ?_⟩; (omega); exact ro_I21)
def Ws_X6_raiseTo : List (Nat × Nat) := [(7, 1), (7, 2), (7, 3), (7, 4), (7, 5), (7, 8), (7, 9)]
set_option maxHeartbeats 4000000 in
set_option maxRecDepth 100000 in
theorem l_X6_raiseTo_L2 {B : Nat × Nat} {T : Nat} {Z0 : jZ} {I0 : jI} {Q : jZ → jI → jL → Prop} (w0 : WD Z0 I0) (v0 : Nat) (v1 : Int32) (kv0 : jk Z0 v0 6) (u9 : Nat) (hu9 : jr Z0 v0 9 = some u9) (p0 : (I0 u9 3).toInt ≤ 1) (hQ : ∀  (Z' : jZ) (I' : jI) (L' : jL), WD Z' I' → BUD B Z' T → FR Ws_X6_raiseTo Z0 I0 Z' I' → CP Z0 Z' → Q Z' I' L') : ∀ (n : Nat) (v2 : Int32) (Z : jZ) (I : jI) (L : jL), WD Z I → BUD B Z T → FR Ws_X6_raiseTo Z0 I0 Z I → CP Z0 Z →   (1 ≤ v2.toInt ∧ v2.toInt ≤ 25 ∧ (I u9 3).toInt ≤ 1 + 4096 * (v2.toInt - 1)) → 25 - v2.toInt < (n : Int) → f_X6_raiseTo_L2 B  Q n v0 v1 v2 Z I L := by
  intro n
  induction n with
  | zero =>
    intro v2 Z I L w_I bd_Z q_I cp_Z   li  me
    exfalso
    omega
  | succ n ih =>
    intro v2 Z I L w_I bd_Z q_I cp_Z   li  me
    unfold f_X6_raiseTo_L2
    have rv2 := i_rng v2
    have rv1 := i_rng v1
    have kv0_0 := kv0
    have kv0 := (q_I.1 _ _ kv0).1
    have hu9_1 : jr Z v0 9 = some u9 := (q_I.2.1 v0 6 9 kv0_0 (by decide) (by decide)).trans hu9
    have ku9 : jk Z u9 7 := by obtain ⟨b9, e9, k9⟩ := sh_o w_I.1 kv0 (j := 9) (k := 7) rfl; cases hu9_1.symm.trans e9; exact k9
    have xq_I := q_I.1
    refine ⟨fun c1 => ?_, fun c1 => ?_⟩
    · skip
      first | (have t2 : v1.toInt < v2.toInt := (i_lt rfl rfl).mp c1) | (have t2 : v1.toInt < v2.toInt := (i_lt rfl rfl).mp c1) | skip
      exact hQ  Z I L w_I bd_Z q_I cp_Z 
    · skip
      first | (have t3 : ¬ (v1.toInt < v2.toInt) := (not_congr (i_lt rfl rfl)).mp c1) | (have t3 : ¬ (v1.toInt < v2.toInt) := (not_congr (i_lt rfl rfl)).mp c1) | skip
      have t5 : 0 ≤ (I v0 15).toInt ∧ (I v0 15).toInt ≤ 24 := w_I.fld 6 15 kv0 (by decide)
      refine ⟨fun c6 => ?_, fun c6 => ?_⟩
      · skip
        first | (have t7 : (I v0 15).toInt < v2.toInt := (i_lt rfl rfl).mp c6) | (have t7 : (I v0 15).toInt < v2.toInt := (i_lt rfl rfl).mp c6) | skip
        exact hQ  Z I L w_I bd_Z q_I cp_Z 
      · skip
        first | (have t8 : ¬ ((I v0 15).toInt < v2.toInt) := (not_congr (i_lt rfl rfl)).mp c6) | (have t8 : ¬ ((I v0 15).toInt < v2.toInt) := (not_congr (i_lt rfl rfl)).mp c6) | skip
        refine s_X6_raiseOne w_I bd_Z v0 v2 kv0 u9 hu9_1 (by omega) (fun  Z12 I10 L11 w_I10 bd_Z12 f_I10 c_Z12 p9 => ?_)
        have q_I10 : FR Ws_X6_raiseTo Z0 I0 Z12 I10 := q_I.trans w0.1 w0.2.1 (f_I10.mono (by decide))
        have cp_Z12 : CP Z0 Z12 := cp_Z.trans q_I.1 c_Z12
        have x_Z12 := f_I10.1
        have k13 := (f_I10.1 _ _ kv0).1
        have k14 := (f_I10.1 _ _ ku9).1
        have k15 := (f_I10.1 _ _ kv0).1
        have e16 := (f_I10.2.1 v0 6 9 kv0 (by decide) (by decide)).trans hu9_1
        have u17 : (I10 v0 15).toInt = (I v0 15).toInt := by rw [f_I10.2.2.1 v0 6 15 kv0 (by decide) (by decide)]
        obtain ⟨p9_0, p9_1⟩ := p9
        intro x18 ex18
        have rx18 := i_rng x18
        first | (have tx18 : x18.toInt = v2.toInt + (1) := by (rw [ex18]; exact (i_add rfl (show (1 : Int32).toInt = 1 from rfl) (by omega) (by omega)))) | skip
        exact ih x18 Z12 I10 L11 w_I10 bd_Z12 q_I10 cp_Z12   (by omega)  (by omega)
set_option maxHeartbeats 4000000 in
set_option maxRecDepth 100000 in
theorem s_X6_raiseTo {B : Nat × Nat} {T : Nat} {Z : jZ} {I : jI} {L : jL} (w_I : WD Z I) (bd_Z : BUD B Z T) (v0 : Nat) (v1 : Int32) (kv0 : jk Z v0 6) (u9 : Nat) (hu9 : jr Z v0 9 = some u9) (p0 : (I u9 3).toInt ≤ 1) {Q : jZ → jI → jL → Prop} (hQ : ∀  (Z' : jZ) (I' : jI) (L' : jL), WD Z' I' → BUD B Z' T → FR Ws_X6_raiseTo Z I Z' I' → CP Z Z' → Q Z' I' L') : f_X6_raiseTo B v0 v1 Z I L Q := by
  unfold f_X6_raiseTo
  have q_I : FR Ws_X6_raiseTo Z I Z I := FR.rf
  have cp_Z : CP Z Z := CP.rf
  have rv1 := i_rng v1
  have ku9 : jk Z u9 7 := by obtain ⟨b9, e9, k9⟩ := sh_o w_I.1 kv0 (j := 9) (k := 7) rfl; cases hu9.symm.trans e9; exact k9
  have t19 : (1 : Int32).toInt = 1 := rfl
  exact ⟨(25 - (1 : Int32).toInt).toNat + 1, l_X6_raiseTo_L2 w_I v0 v1 kv0 u9 hu9 p0   hQ   _ (1 : Int32) Z I L w_I bd_Z q_I cp_Z   (by omega)  (by omega)⟩
def Ws_X6_cheapest : List (Nat × Nat) := [(7, 1), (7, 2), (7, 3), (7, 4), (7, 5), (7, 8), (7, 9)]
set_option maxHeartbeats 4000000 in
set_option maxRecDepth 100000 in
theorem s_X6_cheapest {B : Nat × Nat} {T : Nat} {Z : jZ} {I : jI} {L : jL} (w_I : WD Z I) (bd_Z : BUD B Z T) (v0 : Nat) (kv0 : jk Z v0 6) {Q : Int64 → jZ → jI → jL → Prop} (hQ : ∀ (r : Int64) (Z' : jZ) (I' : jI) (L' : jL), WD Z' I' → BUD B Z' T → FR Ws_X6_cheapest Z I Z' I' → CP Z Z' → Q r Z' I' L') : f_X6_cheapest B v0 Z I L Q := by
  unfold f_X6_cheapest
  have q_I : FR Ws_X6_cheapest Z I Z I := FR.rf
  have cp_Z : CP Z Z := CP.rf
  intro b1 eb1
  obtain ⟨x2, ex2, kb1, lb1⟩ := sh_f w_I.1 kv0 (j := 7) (k := 14) (m := 25) rfl
  cases eb1.symm.trans ex2
  refine ⟨fun c3 => ?_, fun c3 => ?_⟩
  · skip
    first | (have t4 : (I b1 (0 : Int32).toNatClampNeg).toInt ≤ (I v0 1).toInt := (i_le rfl rfl).mp c3) | (have t4 : (I b1 (0 : Int32).toNatClampNeg).toInt ≤ (I v0 1).toInt := (i_le rfl rfl).mp c3) | skip
    intro b5 eb5
    obtain ⟨x6, ex6, kb5⟩ := sh_o w_I.1 kv0 (j := 9) (k := 7) rfl
    cases eb5.symm.trans ex6
    have t7 : (0 : Int32).toInt = 0 := rfl
    refine s_X7_begin w_I bd_Z b5 (0 : Int32) (16777215 : Int64) kb5  (by omega) (fun  Z11 I9 L10 w_I9 bd_Z11 f_I9 c_Z11 p8 => ?_)
    have q_I9 : FR Ws_X6_cheapest Z I Z11 I9 := q_I.trans w_I.1 w_I.2.1 (f_I9.mono (by decide))
    have cp_Z11 : CP Z Z11 := cp_Z.trans q_I.1 c_Z11
    have x_Z11 := f_I9.1
    have k12 := (f_I9.1 _ _ kv0).1
    have k13 := (f_I9.1 _ _ kb1).1
    have l14 := (f_I9.1 _ _ kb1).2.trans lb1
    have k15 := (f_I9.1 _ _ kv0).1
    have e16 := (f_I9.2.1 v0 6 7 kv0 (by decide) (by decide)).trans eb1
    have k17 := (f_I9.1 _ _ kb5).1
    have k18 := (f_I9.1 _ _ kv0).1
    have e19 := (f_I9.2.1 v0 6 9 kv0 (by decide) (by decide)).trans eb5
    have u20 : (I9 v0 1).toInt = (I v0 1).toInt := by rw [f_I9.2.2.1 v0 6 1 kv0 (by decide) (by decide)]
    obtain ⟨p8_0, p8_1⟩ := p8
    have t22 : 0 ≤ (I9 v0 15).toInt ∧ (I9 v0 15).toInt ≤ 24 := w_I9.fld 6 15 k12 (by decide)
    refine s_X6_raiseTo w_I9 bd_Z11 v0 (I9 v0 15) k12 b5 e19 (by omega) (fun  Z25 I23 L24 w_I23 bd_Z25 f_I23 c_Z25  => ?_)
    have q_I23 : FR Ws_X6_cheapest Z I Z25 I23 := q_I9.trans w_I.1 w_I.2.1 (f_I23.mono (by decide))
    have cp_Z25 : CP Z Z25 := cp_Z11.trans q_I9.1 c_Z25
    have x_Z25 := f_I23.1
    have k26 := (f_I23.1 _ _ k12).1
    have k27 := (f_I23.1 _ _ k13).1
    have l28 := (f_I23.1 _ _ k13).2.trans l14
    have k29 := (f_I23.1 _ _ k15).1
    have e30 := (f_I23.2.1 v0 6 7 k15 (by decide) (by decide)).trans e16
    have k31 := (f_I23.1 _ _ k17).1
    have k32 := (f_I23.1 _ _ k18).1
    have e33 := (f_I23.2.1 v0 6 9 k18 (by decide) (by decide)).trans e19
    have u34 : (I23 v0 1).toInt = (I9 v0 1).toInt := by rw [f_I23.2.2.1 v0 6 1 k12 (by decide) (by decide)]
    have u35 : (I23 v0 15).toInt = (I9 v0 15).toInt := by rw [f_I23.2.2.1 v0 6 15 k12 (by decide) (by decide)]
    intro b36 eb36
    obtain rfl : b5 = b36 := Option.some.inj (e33.symm.trans eb36)
    have t38 : 0 ≤ (I23 v0 15).toInt ∧ (I23 v0 15).toInt ≤ 24 := w_I23.fld 6 15 k26 (by decide)
    refine s_X7_sizeAt w_I23 b5 (I23 v0 15) k31   (fun r39 p40 => ?_)
    obtain ⟨b41, eb41, kb41, lb41⟩ := sh_f w_I23.1 k31 (j := 1) (k := 14) (m := 25) rfl
    have t43 : 0 < r39.toInt → (0 ≤ (I23 v0 15).toInt ∧ (I23 v0 15).toInt ≤ 24 ∧ 0 ≤ (I23 b41 (I23 v0 15).toNatClampNeg).toInt ∧ (I23 b41 (I23 v0 15).toNatClampNeg).toInt + r39.toInt ≤ (I23 b5 3).toInt) := fun h9 => ⟨(p40.2.2 h9).1, (p40.2.2 h9).2.1, (p40.2.2 h9).2.2 _ eb41⟩
    have t44 := rw3 w_I23 k31
    obtain ⟨p40_0, p40_1, p40_2⟩ := p40
    have rr39 := i_rng r39
    refine ⟨fun c45 => ?_, fun c45 => ?_⟩
    · skip
      first | (have t46 : r39.toInt ≤ (0) := (i_le rfl (show (0 : Int32).toInt = 0 from rfl)).mp c45) | (have t46 : r39.toInt ≤ (0 : Int32).toInt := (i_le rfl rfl).mp c45) | skip
      exact hQ (9223372036854775807 : Int64) Z25 I23 L24 w_I23 bd_Z25 q_I23 cp_Z25 
    · skip
      first | (have t47 : ¬ (r39.toInt ≤ (0)) := (not_congr (i_le rfl (show (0 : Int32).toInt = 0 from rfl))).mp c45) | (have t47 : ¬ (r39.toInt ≤ (0 : Int32).toInt) := (not_congr (i_le rfl rfl)).mp c45) | skip
      intro b48 eb48
      obtain rfl : b5 = b48 := Option.some.inj (e33.symm.trans eb48)
      have t50 : 0 ≤ (I23 v0 15).toInt ∧ (I23 v0 15).toInt ≤ 24 := w_I23.fld 6 15 k26 (by decide)
      have t51 : (0 : Int32).toInt = 0 := rfl
      refine s_X7_keyAt w_I23 b5 (I23 v0 15) (0 : Int32) k31   (fun r52  => ?_)
      exact hQ r52 Z25 I23 L24 w_I23 bd_Z25 q_I23 cp_Z25 
  · skip
    first | (have t53 : ¬ ((I b1 (0 : Int32).toNatClampNeg).toInt ≤ (I v0 1).toInt) := (not_congr (i_le rfl rfl)).mp c3) | (have t53 : ¬ ((I b1 (0 : Int32).toNatClampNeg).toInt ≤ (I v0 1).toInt) := (not_congr (i_le rfl rfl)).mp c3) | skip
    exact hQ (9223372036854775807 : Int64) Z I L w_I bd_Z q_I cp_Z 
def Ws_X6_lower : List (Nat × Nat) := [(7, 1), (7, 2), (7, 3), (7, 4), (7, 5), (7, 8), (7, 9)]
set_option maxHeartbeats 4000000 in
set_option maxRecDepth 100000 in
theorem l_X6_lower_L10 {B : Nat × Nat} {T : Nat} {Z0 : jZ} {I0 : jI} {Q : jZ → jI → jL → Prop} (w0 : WD Z0 I0) (v0 : Nat) (v1 : Int32) (kv0 : jk Z0 v0 6) (u10 : Nat) (hu10 : jr Z0 v0 10 = some u10) (p0 : 1 ≤ v1.toInt ∧ v1.toInt ≤ 23) (p1 : (I0 u10 3).toInt ≤ 94209) (hQ : ∀  (Z' : jZ) (I' : jI) (L' : jL), WD Z' I' → BUD B Z' T → FR Ws_X6_lower Z0 I0 Z' I' → CP Z0 Z' → ((I' u10 3).toInt ≤ (I0 u10 3).toInt + 4096 ∧ RO u10 Z0 I0 I') → Q Z' I' L') : ∀ (n : Nat) (v2 : Int32) (Z : jZ) (I : jI) (L : jL), WD Z I → BUD B Z T → FR Ws_X6_lower Z0 I0 Z I → CP Z0 Z →   ((1 ≤ v2.toInt ∧ v2.toInt ≤ 4) ∧ (I u10 3).toInt = (I0 u10 3).toInt ∧ FI Z I u10 v1.toNatClampNeg ∧ RO u10 Z0 I0 I) → 4 - v2.toInt < (n : Int) → f_X6_lower_L10 B  Q n v0 v1 v2 Z I L := by
  intro n
  induction n with
  | zero =>
    intro v2 Z I L w_I bd_Z q_I cp_Z   li  me
    exfalso
    omega
  | succ n ih =>
    intro v2 Z I L w_I bd_Z q_I cp_Z   li  me
    unfold f_X6_lower_L10
    have rv2 := i_rng v2
    have rv1 := i_rng v1
    obtain ⟨li0, li1, li2, li3⟩ := li
    have ro_I := li3
    have kv0_0 := kv0
    have kv0 := (q_I.1 _ _ kv0).1
    have hu10_1 : jr Z v0 10 = some u10 := (q_I.2.1 v0 6 10 kv0_0 (by decide) (by decide)).trans hu10
    have ku10 : jk Z u10 7 := by obtain ⟨b9, e9, k9⟩ := sh_o w_I.1 kv0 (j := 10) (k := 7) rfl; cases hu10_1.symm.trans e9; exact k9
    have xq_I := q_I.1
    have t2 : 0 ≤ (I v0 3).toInt ∧ (I v0 3).toInt ≤ 3 := w_I.fld 6 3 kv0 (by decide)
    refine ⟨fun c3 => ?_, fun c3 => ?_⟩
    · skip
      first | (have t4 : (I v0 3).toInt < v2.toInt := (i_lt rfl rfl).mp c3) | (have t4 : (I v0 3).toInt < v2.toInt := (i_lt rfl rfl).mp c3) | skip
      unfold f_X6_lower_b72
      intro b5 eb5
      obtain rfl : u10 = b5 := Option.some.inj (hu10_1.symm.trans eb5)
      intro b6 eb6
      obtain ⟨x7, ex7, kb6, lb6⟩ := sh_f w_I.1 kv0 (j := 8) (k := 14) (m := 25) rfl
      cases eb6.symm.trans ex7
      have o8 : vp_in v1 25 := vi_of rfl (by omega) (by omega)
      refine ⟨o8, ?_⟩
      try (have t9 : ((I v0 1) - (I b6 v1.toNatClampNeg)).toInt = ((I v0 1).toInt - (I b6 v1.toNatClampNeg).toInt) := (i_sub rfl rfl (by omega) (by omega)))
      refine s_X7_keepCheapest w_I bd_Z u10 v1 ((I v0 1) - (I b6 v1.toNatClampNeg)) (I v0 2) ku10  (by omega) (by first | assumption | solve_by_elim | (simp only [*]; assumption)) (by omega) (fun  Z13 I11 L12 w_I11 bd_Z13 f_I11 c_Z13 p10 => ?_)
      have q_I11 : FR Ws_X6_lower Z0 I0 Z13 I11 := q_I.trans w0.1 w0.2.1 (f_I11.mono (by decide))
      have cp_Z13 : CP Z0 Z13 := cp_Z.trans q_I.1 c_Z13
      have x_Z13 := f_I11.1
      have k14 := (f_I11.1 _ _ kv0).1
      have k15 := (f_I11.1 _ _ ku10).1
      have k16 := (f_I11.1 _ _ kv0).1
      have e17 := (f_I11.2.1 v0 6 10 kv0 (by decide) (by decide)).trans hu10_1
      have k18 := (f_I11.1 _ _ kb6).1
      have l19 := (f_I11.1 _ _ kb6).2.trans lb6
      have k20 := (f_I11.1 _ _ kv0).1
      have e21 := (f_I11.2.1 v0 6 8 kv0 (by decide) (by decide)).trans eb6
      have u22 : (I11 v0 3).toInt = (I v0 3).toInt := by rw [f_I11.2.2.1 v0 6 3 kv0 (by decide) (by decide)]
      have u23 : (I11 v0 1).toInt = (I v0 1).toInt := by rw [f_I11.2.2.1 v0 6 1 kv0 (by decide) (by decide)]
      have u24 : (I11 v0 2).toInt = (I v0 2).toInt := by rw [f_I11.2.2.1 v0 6 2 kv0 (by decide) (by decide)]
      obtain ⟨p10_0, p10_1⟩ := p10
      have ro_I11 : RO u10 Z0 I0 I11 := RO.trans q_I.1 ro_I p10_1
      exact hQ  Z13 I11 L12 w_I11 bd_Z13 q_I11 cp_Z13 (by refine ⟨?_, ?_⟩; (omega); exact ro_I11)
    · skip
      first | (have t25 : ¬ ((I v0 3).toInt < v2.toInt) := (not_congr (i_lt rfl rfl)).mp c3) | (have t25 : ¬ ((I v0 3).toInt < v2.toInt) := (not_congr (i_lt rfl rfl)).mp c3) | skip
      have t27 : 0 ≤ (I v0 15).toInt ∧ (I v0 15).toInt ≤ 24 := w_I.fld 6 15 kv0 (by decide)
      refine ⟨fun c28 => ?_, fun c28 => ?_⟩
      · skip
        first | (have t29 : (I v0 15).toInt < (v1.toInt + v2.toInt) := (i_lt rfl (i_add rfl rfl (by omega) (by omega))).mp c28) | (have t29 : (I v0 15).toInt < (v1 + v2).toInt := (i_lt rfl rfl).mp c28) | skip
        unfold f_X6_lower_b72
        intro b30 eb30
        obtain rfl : u10 = b30 := Option.some.inj (hu10_1.symm.trans eb30)
        intro b31 eb31
        obtain ⟨x32, ex32, kb31, lb31⟩ := sh_f w_I.1 kv0 (j := 8) (k := 14) (m := 25) rfl
        cases eb31.symm.trans ex32
        have o33 : vp_in v1 25 := vi_of rfl (by omega) (by omega)
        refine ⟨o33, ?_⟩
        try (have t34 : ((I v0 1) - (I b31 v1.toNatClampNeg)).toInt = ((I v0 1).toInt - (I b31 v1.toNatClampNeg).toInt) := (i_sub rfl rfl (by omega) (by omega)))
        refine s_X7_keepCheapest w_I bd_Z u10 v1 ((I v0 1) - (I b31 v1.toNatClampNeg)) (I v0 2) ku10  (by omega) (by first | assumption | solve_by_elim | (simp only [*]; assumption)) (by omega) (fun  Z38 I36 L37 w_I36 bd_Z38 f_I36 c_Z38 p35 => ?_)
        have q_I36 : FR Ws_X6_lower Z0 I0 Z38 I36 := q_I.trans w0.1 w0.2.1 (f_I36.mono (by decide))
        have cp_Z38 : CP Z0 Z38 := cp_Z.trans q_I.1 c_Z38
        have x_Z38 := f_I36.1
        have k39 := (f_I36.1 _ _ kv0).1
        have k40 := (f_I36.1 _ _ ku10).1
        have k41 := (f_I36.1 _ _ kv0).1
        have e42 := (f_I36.2.1 v0 6 10 kv0 (by decide) (by decide)).trans hu10_1
        have k43 := (f_I36.1 _ _ kb31).1
        have l44 := (f_I36.1 _ _ kb31).2.trans lb31
        have k45 := (f_I36.1 _ _ kv0).1
        have e46 := (f_I36.2.1 v0 6 8 kv0 (by decide) (by decide)).trans eb31
        have u47 : (I36 v0 3).toInt = (I v0 3).toInt := by rw [f_I36.2.2.1 v0 6 3 kv0 (by decide) (by decide)]
        have u48 : (I36 v0 15).toInt = (I v0 15).toInt := by rw [f_I36.2.2.1 v0 6 15 kv0 (by decide) (by decide)]
        have u49 : (I36 v0 1).toInt = (I v0 1).toInt := by rw [f_I36.2.2.1 v0 6 1 kv0 (by decide) (by decide)]
        have u50 : (I36 v0 2).toInt = (I v0 2).toInt := by rw [f_I36.2.2.1 v0 6 2 kv0 (by decide) (by decide)]
        obtain ⟨p35_0, p35_1⟩ := p35
        have ro_I36 : RO u10 Z0 I0 I36 := RO.trans q_I.1 ro_I p35_1
        exact hQ  Z38 I36 L37 w_I36 bd_Z38 q_I36 cp_Z38 (by refine ⟨?_, ?_⟩; (omega); exact ro_I36)
      · skip
        first | (have t51 : ¬ ((I v0 15).toInt < (v1.toInt + v2.toInt)) := (not_congr (i_lt rfl (i_add rfl rfl (by omega) (by omega)))).mp c28) | (have t51 : ¬ ((I v0 15).toInt < (v1 + v2).toInt) := (not_congr (i_lt rfl rfl)).mp c28) | skip
        intro b52 eb52
        obtain ⟨x53, ex53, kb52, lb52⟩ := sh_f w_I.1 kv0 (j := 6) (k := 16) (m := 25) rfl
        cases eb52.symm.trans ex53
        have o54 : vp_in v1 25 := vi_of rfl (by omega) (by omega)
        refine ⟨o54, ?_⟩
        refine ⟨fun c55 => ?_, fun c55 => ?_⟩
        · skip
          first | (have t56 : (I b52 v1.toNatClampNeg).toInt = (0) := (i_eq rfl (show (0 : Int32).toInt = 0 from rfl)).mp c55) | (have t56 : (I b52 v1.toNatClampNeg).toInt = (0 : Int32).toInt := (i_eq rfl rfl).mp c55) | skip
          unfold f_X6_lower_b72
          intro b57 eb57
          obtain rfl : u10 = b57 := Option.some.inj (hu10_1.symm.trans eb57)
          intro b58 eb58
          obtain ⟨x59, ex59, kb58, lb58⟩ := sh_f w_I.1 kv0 (j := 8) (k := 14) (m := 25) rfl
          cases eb58.symm.trans ex59
          have o60 : vp_in v1 25 := vi_of rfl (by omega) (by omega)
          refine ⟨o60, ?_⟩
          try (have t61 : ((I v0 1) - (I b58 v1.toNatClampNeg)).toInt = ((I v0 1).toInt - (I b58 v1.toNatClampNeg).toInt) := (i_sub rfl rfl (by omega) (by omega)))
          refine s_X7_keepCheapest w_I bd_Z u10 v1 ((I v0 1) - (I b58 v1.toNatClampNeg)) (I v0 2) ku10  (by omega) (by first | assumption | solve_by_elim | (simp only [*]; assumption)) (by omega) (fun  Z65 I63 L64 w_I63 bd_Z65 f_I63 c_Z65 p62 => ?_)
          have q_I63 : FR Ws_X6_lower Z0 I0 Z65 I63 := q_I.trans w0.1 w0.2.1 (f_I63.mono (by decide))
          have cp_Z65 : CP Z0 Z65 := cp_Z.trans q_I.1 c_Z65
          have x_Z65 := f_I63.1
          have k66 := (f_I63.1 _ _ kv0).1
          have k67 := (f_I63.1 _ _ ku10).1
          have k68 := (f_I63.1 _ _ kv0).1
          have e69 := (f_I63.2.1 v0 6 10 kv0 (by decide) (by decide)).trans hu10_1
          have k70 := (f_I63.1 _ _ kb52).1
          have l71 := (f_I63.1 _ _ kb52).2.trans lb52
          have k72 := (f_I63.1 _ _ kv0).1
          have e73 := (f_I63.2.1 v0 6 6 kv0 (by decide) (by decide)).trans eb52
          have k74 := (f_I63.1 _ _ kb58).1
          have l75 := (f_I63.1 _ _ kb58).2.trans lb58
          have k76 := (f_I63.1 _ _ kv0).1
          have e77 := (f_I63.2.1 v0 6 8 kv0 (by decide) (by decide)).trans eb58
          have u78 : (I63 v0 3).toInt = (I v0 3).toInt := by rw [f_I63.2.2.1 v0 6 3 kv0 (by decide) (by decide)]
          have u79 : (I63 v0 15).toInt = (I v0 15).toInt := by rw [f_I63.2.2.1 v0 6 15 kv0 (by decide) (by decide)]
          have u80 : (I63 v0 1).toInt = (I v0 1).toInt := by rw [f_I63.2.2.1 v0 6 1 kv0 (by decide) (by decide)]
          have u81 : (I63 v0 2).toInt = (I v0 2).toInt := by rw [f_I63.2.2.1 v0 6 2 kv0 (by decide) (by decide)]
          obtain ⟨p62_0, p62_1⟩ := p62
          have ro_I63 : RO u10 Z0 I0 I63 := RO.trans q_I.1 ro_I p62_1
          exact hQ  Z65 I63 L64 w_I63 bd_Z65 q_I63 cp_Z65 (by refine ⟨?_, ?_⟩; (omega); exact ro_I63)
        · skip
          first | (have t82 : ¬ ((I b52 v1.toNatClampNeg).toInt = (0)) := (not_congr (i_eq rfl (show (0 : Int32).toInt = 0 from rfl))).mp c55) | (have t82 : ¬ ((I b52 v1.toNatClampNeg).toInt = (0 : Int32).toInt) := (not_congr (i_eq rfl rfl)).mp c55) | skip
          intro b83 eb83
          obtain rfl : b52 = b83 := Option.some.inj (eb52.symm.trans eb83)
          have o84 : vp_in (v1 + v2) 25 := vi_of (i_add rfl rfl (by omega) (by omega)) (by omega) (by omega)
          refine ⟨o84, ?_⟩
          refine ⟨fun c85 => ?_, fun c85 => ?_⟩
          · skip
            first | (have t86 : (I b52 (v1 + v2).toNatClampNeg).toInt = (0) := (i_eq rfl (show (0 : Int32).toInt = 0 from rfl)).mp c85) | (have t86 : (I b52 (v1 + v2).toNatClampNeg).toInt = (0 : Int32).toInt := (i_eq rfl rfl).mp c85) | skip
            unfold f_X6_lower_b66
            intro x87 ex87
            have rx87 := i_rng x87
            first | (have tx87 : x87.toInt = v2.toInt + (1) := by (rw [ex87]; exact (i_add rfl (show (1 : Int32).toInt = 1 from rfl) (by omega) (by omega)))) | skip
            exact ih x87 Z I L w_I bd_Z q_I cp_Z   (by refine ⟨?_, ?_, ?_, ?_⟩; (omega); (omega); (first | assumption | solve_by_elim); exact ro_I)  (by omega)
          · skip
            first | (have t88 : ¬ ((I b52 (v1 + v2).toNatClampNeg).toInt = (0)) := (not_congr (i_eq rfl (show (0 : Int32).toInt = 0 from rfl))).mp c85) | (have t88 : ¬ ((I b52 (v1 + v2).toNatClampNeg).toInt = (0 : Int32).toInt) := (not_congr (i_eq rfl rfl)).mp c85) | skip
            intro b89 eb89
            obtain rfl : u10 = b89 := Option.some.inj (hu10_1.symm.trans eb89)
            try (have t90 : (v1 + v2).toInt = (v1.toInt + v2.toInt) := (i_add rfl rfl (by omega) (by omega)))
            refine s_X6_keyOf w_I v0 (v1 + v2) v2 kv0  (by omega) (fun r91  => ?_)
            try (have t92 : (v1 + v2).toInt = (v1.toInt + v2.toInt) := (i_add rfl rfl (by omega) (by omega)))
            refine s_X7_merge w_I u10 (v1 + v2) r91 ku10   (fun  I94 L95 w_I94 f_I94 p93 => ?_)
            have q_I94 : FR Ws_X6_lower Z0 I0 Z I94 := q_I.trans w0.1 w0.2.1 (f_I94.mono (by decide))
            have u96 : (I94 v0 3).toInt = (I v0 3).toInt := by rw [f_I94.2.2.1 v0 6 3 kv0 (by decide) (by decide)]
            have u97 : (I94 v0 15).toInt = (I v0 15).toInt := by rw [f_I94.2.2.1 v0 6 15 kv0 (by decide) (by decide)]
            obtain ⟨p93_0, p93_1, p93_2⟩ := p93
            have ro_I94 : RO u10 Z0 I0 I94 := RO.trans q_I.1 ro_I p93_2
            unfold f_X6_lower_b66
            intro x98 ex98
            have rx98 := i_rng x98
            first | (have tx98 : x98.toInt = v2.toInt + (1) := by (rw [ex98]; exact (i_add rfl (show (1 : Int32).toInt = 1 from rfl) (by omega) (by omega)))) | skip
            exact ih x98 Z I94 L95 w_I94 bd_Z q_I94 cp_Z   (by refine ⟨?_, ?_, ?_, ?_⟩; (omega); (omega); (first | assumption | solve_by_elim); exact ro_I94)  (by omega)
set_option maxHeartbeats 4000000 in
set_option maxRecDepth 100000 in
theorem s_X6_lower {B : Nat × Nat} {T : Nat} {Z : jZ} {I : jI} {L : jL} (w_I : WD Z I) (bd_Z : BUD B Z T) (v0 : Nat) (v1 : Int32) (kv0 : jk Z v0 6) (u10 : Nat) (hu10 : jr Z v0 10 = some u10) (p0 : 1 ≤ v1.toInt ∧ v1.toInt ≤ 23) (p1 : (I u10 3).toInt ≤ 94209) {Q : jZ → jI → jL → Prop} (hQ : ∀  (Z' : jZ) (I' : jI) (L' : jL), WD Z' I' → BUD B Z' T → FR Ws_X6_lower Z I Z' I' → CP Z Z' → ((I' u10 3).toInt ≤ (I u10 3).toInt + 4096 ∧ RO u10 Z I I') → Q Z' I' L') : f_X6_lower B v0 v1 Z I L Q := by
  unfold f_X6_lower
  have q_I : FR Ws_X6_lower Z I Z I := FR.rf
  have ro_I : RO u10 Z I I := RO.rf
  have cp_Z : CP Z Z := CP.rf
  have rv1 := i_rng v1
  have ku10 : jk Z u10 7 := by obtain ⟨b9, e9, k9⟩ := sh_o w_I.1 kv0 (j := 10) (k := 7) rfl; cases hu10.symm.trans e9; exact k9
  intro b99 eb99
  obtain rfl : u10 = b99 := Option.some.inj (hu10.symm.trans eb99)
  refine s_X7_start w_I u10 v1 ku10  (by omega) (fun  I101 L102 w_I101 f_I101 p100 => ?_)
  have q_I101 : FR Ws_X6_lower Z I Z I101 := q_I.trans w_I.1 w_I.2.1 (f_I101.mono (by decide))
  obtain ⟨p100_0, p100_1, p100_2⟩ := p100
  have ro_I101 : RO u10 Z I I101 := RO.trans q_I.1 ro_I p100_2
  have t103 : (1 : Int32).toInt = 1 := rfl
  exact ⟨(4 - (1 : Int32).toInt).toNat + 1, l_X6_lower_L10 w_I v0 v1 kv0 u10 hu10 p0 p1   hQ   _ (1 : Int32) Z I101 L102 w_I101 bd_Z q_I101 cp_Z   (by refine ⟨?_, ?_, ?_, ?_⟩; (omega); (omega); (first | assumption | solve_by_elim); exact ro_I101)  (by omega)⟩
def Ws_X6_survey : List (Nat × Nat) := [(6, 8), (7, 1), (7, 2), (7, 3), (7, 4), (7, 5), (7, 8), (7, 9)]
set_option maxHeartbeats 4000000 in
set_option maxRecDepth 100000 in
theorem l_X6_survey_L48 {B : Nat × Nat} {T : Nat} {Z0 : jZ} {I0 : jI} {Q : jZ → jI → jL → Prop} (w0 : WD Z0 I0) (v0 : Nat) (kv0 : jk Z0 v0 6) (u9 : Nat) (hu9 : jr Z0 v0 9 = some u9) (u10 : Nat) (hu10 : jr Z0 v0 10 = some u10) (hQ : ∀  (Z' : jZ) (I' : jI) (L' : jL), WD Z' I' → BUD B Z' T → FR Ws_X6_survey Z0 I0 Z' I' → CP Z0 Z' → ((I' u9 3).toInt ≤ 1 ∧ RO2 u9 u10 Z0 I0 I') → Q Z' I' L') : ∀ (n : Nat) (v1 : Int32) (Z : jZ) (I : jI) (L : jL), WD Z I → BUD B Z T → FR Ws_X6_survey Z0 I0 Z I → CP Z0 Z →   ((-1 ≤ v1.toInt ∧ v1.toInt ≤ 23) ∧ (I u10 3).toInt ≤ 1 + 4096 * (23 - v1.toInt) ∧ RO2 u9 u10 Z0 I0 I) → v1.toInt + 1 < (n : Int) → f_X6_survey_L48 B  Q n v0 v1 Z I L := by
  intro n
  induction n with
  | zero =>
    intro v1 Z I L w_I bd_Z q_I cp_Z   li  me
    exfalso
    omega
  | succ n ih =>
    intro v1 Z I L w_I bd_Z q_I cp_Z   li  me
    unfold f_X6_survey_L48
    have rv1 := i_rng v1
    obtain ⟨li0, li1, li2⟩ := li
    have ro_I := li2
    have kv0_0 := kv0
    have kv0 := (q_I.1 _ _ kv0).1
    have hu9_1 : jr Z v0 9 = some u9 := (q_I.2.1 v0 6 9 kv0_0 (by decide) (by decide)).trans hu9
    have ku9 : jk Z u9 7 := by obtain ⟨b9, e9, k9⟩ := sh_o w_I.1 kv0 (j := 9) (k := 7) rfl; cases hu9_1.symm.trans e9; exact k9
    have hu10_1 : jr Z v0 10 = some u10 := (q_I.2.1 v0 6 10 kv0_0 (by decide) (by decide)).trans hu10
    have ku10 : jk Z u10 7 := by obtain ⟨b9, e9, k9⟩ := sh_o w_I.1 kv0 (j := 10) (k := 7) rfl; cases hu10_1.symm.trans e9; exact k9
    have xq_I := q_I.1
    refine ⟨fun c1 => ?_, fun c1 => ?_⟩
    · skip
      first | (have t2 : v1.toInt ≤ (0) := (i_le rfl (show (0 : Int32).toInt = 0 from rfl)).mp c1) | (have t2 : v1.toInt ≤ (0 : Int32).toInt := (i_le rfl rfl).mp c1) | skip
      intro b3 eb3
      obtain rfl : u9 = b3 := Option.some.inj (hu9_1.symm.trans eb3)
      have t4 : (0 : Int32).toInt = 0 := rfl
      refine s_X7_begin w_I bd_Z u9 (0 : Int32) (16777215 : Int64) ku9  (by omega) (fun  Z8 I6 L7 w_I6 bd_Z8 f_I6 c_Z8 p5 => ?_)
      have q_I6 : FR Ws_X6_survey Z0 I0 Z8 I6 := q_I.trans w0.1 w0.2.1 (f_I6.mono (by decide))
      have cp_Z8 : CP Z0 Z8 := cp_Z.trans q_I.1 c_Z8
      have x_Z8 := f_I6.1
      have k9 := (f_I6.1 _ _ kv0).1
      have k10 := (f_I6.1 _ _ ku9).1
      have k11 := (f_I6.1 _ _ kv0).1
      have e12 := (f_I6.2.1 v0 6 9 kv0 (by decide) (by decide)).trans hu9_1
      have k13 := (f_I6.1 _ _ ku10).1
      have k14 := (f_I6.1 _ _ kv0).1
      have e15 := (f_I6.2.1 v0 6 10 kv0 (by decide) (by decide)).trans hu10_1
      obtain ⟨p5_0, p5_1⟩ := p5
      have ro_I6 : RO2 u9 u10 Z0 I0 I6 := RO2.trans q_I.1 ro_I (RO2.a p5_1)
      exact hQ  Z8 I6 L7 w_I6 bd_Z8 q_I6 cp_Z8 (by refine ⟨?_, ?_⟩; (omega); exact ro_I6)
    · skip
      first | (have t16 : ¬ (v1.toInt ≤ (0)) := (not_congr (i_le rfl (show (0 : Int32).toInt = 0 from rfl))).mp c1) | (have t16 : ¬ (v1.toInt ≤ (0 : Int32).toInt) := (not_congr (i_le rfl rfl)).mp c1) | skip
      refine s_X6_lower w_I bd_Z v0 v1 kv0 u10 hu10_1 (by omega) (by omega) (fun  Z20 I18 L19 w_I18 bd_Z20 f_I18 c_Z20 p17 => ?_)
      have q_I18 : FR Ws_X6_survey Z0 I0 Z20 I18 := q_I.trans w0.1 w0.2.1 (f_I18.mono (by decide))
      have cp_Z20 : CP Z0 Z20 := cp_Z.trans q_I.1 c_Z20
      have x_Z20 := f_I18.1
      have k21 := (f_I18.1 _ _ kv0).1
      have k22 := (f_I18.1 _ _ ku9).1
      have k23 := (f_I18.1 _ _ kv0).1
      have e24 := (f_I18.2.1 v0 6 9 kv0 (by decide) (by decide)).trans hu9_1
      have k25 := (f_I18.1 _ _ ku10).1
      have k26 := (f_I18.1 _ _ kv0).1
      have e27 := (f_I18.2.1 v0 6 10 kv0 (by decide) (by decide)).trans hu10_1
      obtain ⟨p17_0, p17_1⟩ := p17
      have ro_I18 : RO2 u9 u10 Z0 I0 I18 := RO2.trans q_I.1 ro_I (RO2.b p17_1)
      intro x28 ex28
      have rx28 := i_rng x28
      first | (have tx28 : x28.toInt = v1.toInt + (-1) := by (rw [ex28]; exact (i_add rfl (show (-1 : Int32).toInt = -1 from rfl) (by omega) (by omega)))) | skip
      exact ih x28 Z20 I18 L19 w_I18 bd_Z20 q_I18 cp_Z20   (by refine ⟨?_, ?_, ?_⟩; (omega); (omega); exact ro_I18)  (by omega)
set_option maxHeartbeats 4000000 in
set_option maxRecDepth 100000 in
theorem l_X6_survey_L2 {B : Nat × Nat} {T : Nat} {Z0 : jZ} {I0 : jI} {Q : jZ → jI → jL → Prop} (w0 : WD Z0 I0) (v0 : Nat) (kv0 : jk Z0 v0 6) (u9 : Nat) (hu9 : jr Z0 v0 9 = some u9) (u10 : Nat) (hu10 : jr Z0 v0 10 = some u10) (hQ : ∀  (Z' : jZ) (I' : jI) (L' : jL), WD Z' I' → BUD B Z' T → FR Ws_X6_survey Z0 I0 Z' I' → CP Z0 Z' → ((I' u9 3).toInt ≤ 1 ∧ RO2 u9 u10 Z0 I0 I') → Q Z' I' L') : ∀ (n : Nat) (v1 : Int32) (Z : jZ) (I : jI) (L : jL), WD Z I → BUD B Z T → FR Ws_X6_survey Z0 I0 Z I → CP Z0 Z →   ((0 ≤ v1.toInt ∧ v1.toInt ≤ 25) ∧ RO2 u9 u10 Z0 I0 I) → 25 - v1.toInt < (n : Int) → f_X6_survey_L2 B  Q n v0 v1 Z I L := by
  intro n
  induction n with
  | zero =>
    intro v1 Z I L w_I bd_Z q_I cp_Z   li  me
    exfalso
    omega
  | succ n ih =>
    intro v1 Z I L w_I bd_Z q_I cp_Z   li  me
    unfold f_X6_survey_L2
    have rv1 := i_rng v1
    obtain ⟨li0, li1⟩ := li
    have ro_I := li1
    have kv0_0 := kv0
    have kv0 := (q_I.1 _ _ kv0).1
    have hu9_1 : jr Z v0 9 = some u9 := (q_I.2.1 v0 6 9 kv0_0 (by decide) (by decide)).trans hu9
    have ku9 : jk Z u9 7 := by obtain ⟨b9, e9, k9⟩ := sh_o w_I.1 kv0 (j := 9) (k := 7) rfl; cases hu9_1.symm.trans e9; exact k9
    have hu10_1 : jr Z v0 10 = some u10 := (q_I.2.1 v0 6 10 kv0_0 (by decide) (by decide)).trans hu10
    have ku10 : jk Z u10 7 := by obtain ⟨b9, e9, k9⟩ := sh_o w_I.1 kv0 (j := 10) (k := 7) rfl; cases hu10_1.symm.trans e9; exact k9
    have xq_I := q_I.1
    have t30 : 0 ≤ (I v0 15).toInt ∧ (I v0 15).toInt ≤ 24 := w_I.fld 6 15 kv0 (by decide)
    refine ⟨fun c31 => ?_, fun c31 => ?_⟩
    · skip
      first | (have t32 : (I v0 15).toInt < v1.toInt := (i_lt rfl rfl).mp c31) | (have t32 : (I v0 15).toInt < v1.toInt := (i_lt rfl rfl).mp c31) | skip
      intro b33 eb33
      obtain rfl : u10 = b33 := Option.some.inj (hu10_1.symm.trans eb33)
      have t35 : 0 ≤ (I v0 15).toInt ∧ (I v0 15).toInt ≤ 24 := w_I.fld 6 15 kv0 (by decide)
      refine s_X7_begin w_I bd_Z u10 (I v0 15) (16777215 : Int64) ku10  (by omega) (fun  Z39 I37 L38 w_I37 bd_Z39 f_I37 c_Z39 p36 => ?_)
      have q_I37 : FR Ws_X6_survey Z0 I0 Z39 I37 := q_I.trans w0.1 w0.2.1 (f_I37.mono (by decide))
      have cp_Z39 : CP Z0 Z39 := cp_Z.trans q_I.1 c_Z39
      have x_Z39 := f_I37.1
      have k40 := (f_I37.1 _ _ kv0).1
      have k41 := (f_I37.1 _ _ ku9).1
      have k42 := (f_I37.1 _ _ kv0).1
      have e43 := (f_I37.2.1 v0 6 9 kv0 (by decide) (by decide)).trans hu9_1
      have k44 := (f_I37.1 _ _ ku10).1
      have k45 := (f_I37.1 _ _ kv0).1
      have e46 := (f_I37.2.1 v0 6 10 kv0 (by decide) (by decide)).trans hu10_1
      have u47 : (I37 v0 15).toInt = (I v0 15).toInt := by rw [f_I37.2.2.1 v0 6 15 kv0 (by decide) (by decide)]
      obtain ⟨p36_0, p36_1⟩ := p36
      have ro_I37 : RO2 u9 u10 Z0 I0 I37 := RO2.trans q_I.1 ro_I (RO2.b p36_1)
      have t49 : 0 ≤ (I37 v0 15).toInt ∧ (I37 v0 15).toInt ≤ 24 := w_I37.fld 6 15 k40 (by decide)
      intro x50 ex50
      have rx50 := i_rng x50
      first | (have tx50 : x50.toInt = ((I37 v0 15).toInt - (1)) := by (rw [ex50]; exact (i_sub rfl (show (1 : Int32).toInt = 1 from rfl) (by omega) (by omega)))) | (have tx50 : x50.toInt = ((I37 v0 15) - (1 : Int32)).toInt := by rw [ex50])
      exact ⟨(x50.toInt + 1).toNat + 1, l_X6_survey_L48 w0 v0 kv0_0 u9 hu9 u10 hu10   hQ   _ x50 Z39 I37 L38 w_I37 bd_Z39 q_I37 cp_Z39   (by refine ⟨?_, ?_, ?_⟩; (omega); (omega); exact ro_I37)  (by omega)⟩
    · skip
      first | (have t51 : ¬ ((I v0 15).toInt < v1.toInt) := (not_congr (i_lt rfl rfl)).mp c31) | (have t51 : ¬ ((I v0 15).toInt < v1.toInt) := (not_congr (i_lt rfl rfl)).mp c31) | skip
      intro b52 eb52
      obtain ⟨x53, ex53, kb52, lb52⟩ := sh_f w_I.1 kv0 (j := 8) (k := 14) (m := 25) rfl
      cases eb52.symm.trans ex53
      refine s_X6_leastEffortFrom w_I v0 v1 kv0  (by omega) (fun r54  => ?_)
      have rr54 := i_rng r54
      have o55 : vp_in v1 25 := vi_of rfl (by omega) (by omega)
      refine ⟨o55, ?_⟩
      intro I56 eI56
      have w_I56 : WD Z I56 := by rw [eI56]; exact WD_putA w_I 6 8 kv0 eb52 kb52 rfl rfl (by decide) trivial
      have f_I56 : FR [(6, 8)] Z I Z I56 := by rw [eI56]; exact FR_upA w_I.2.1 kv0 eb52 kb52 rfl rfl List.mem_cons_self
      have q_I56 : FR Ws_X6_survey Z0 I0 Z I56 := q_I.trans w0.1 w0.2.1 (f_I56.mono (by decide))
      have ro_I56 : RO2 u9 u10 Z0 I0 I56 := RO2.trans q_I.1 ro_I (RO2.fr f_I56 (by decide))
      have u57 : (I56 u9 3).toInt = (I u9 3).toInt := by rw [f_I56.2.2.1 u9 7 3 ku9 (by decide) (by decide)]
      have u58 : (I56 u10 3).toInt = (I u10 3).toInt := by rw [f_I56.2.2.1 u10 7 3 ku10 (by decide) (by decide)]
      have u59 : (I56 v0 15).toInt = (I v0 15).toInt := by rw [f_I56.2.2.1 v0 6 15 kv0 (by decide) (by decide)]
      intro x60 ex60
      have rx60 := i_rng x60
      first | (have tx60 : x60.toInt = v1.toInt + (1) := by (rw [ex60]; exact (i_add rfl (show (1 : Int32).toInt = 1 from rfl) (by omega) (by omega)))) | skip
      exact ih x60 Z I56 L w_I56 bd_Z q_I56 cp_Z   (by refine ⟨?_, ?_⟩; (omega); exact ro_I56)  (by omega)
set_option maxHeartbeats 4000000 in
set_option maxRecDepth 100000 in
theorem s_X6_survey {B : Nat × Nat} {T : Nat} {Z : jZ} {I : jI} {L : jL} (w_I : WD Z I) (bd_Z : BUD B Z T) (v0 : Nat) (kv0 : jk Z v0 6) (u9 : Nat) (hu9 : jr Z v0 9 = some u9) (u10 : Nat) (hu10 : jr Z v0 10 = some u10) {Q : jZ → jI → jL → Prop} (hQ : ∀  (Z' : jZ) (I' : jI) (L' : jL), WD Z' I' → BUD B Z' T → FR Ws_X6_survey Z I Z' I' → CP Z Z' → ((I' u9 3).toInt ≤ 1 ∧ RO2 u9 u10 Z I I') → Q Z' I' L') : f_X6_survey B v0 Z I L Q := by
  unfold f_X6_survey
  have q_I : FR Ws_X6_survey Z I Z I := FR.rf
  have ro_I : RO2 u9 u10 Z I I := RO2.rf
  have cp_Z : CP Z Z := CP.rf
  have ku9 : jk Z u9 7 := by obtain ⟨b9, e9, k9⟩ := sh_o w_I.1 kv0 (j := 9) (k := 7) rfl; cases hu9.symm.trans e9; exact k9
  have ku10 : jk Z u10 7 := by obtain ⟨b9, e9, k9⟩ := sh_o w_I.1 kv0 (j := 10) (k := 7) rfl; cases hu10.symm.trans e9; exact k9
  have t61 : (0 : Int32).toInt = 0 := rfl
  exact ⟨(25 - (0 : Int32).toInt).toNat + 1, l_X6_survey_L2 w_I v0 kv0 u9 hu9 u10 hu10   hQ   _ (0 : Int32) Z I L w_I bd_Z q_I cp_Z   (by refine ⟨?_, ?_⟩; (omega); exact ro_I)  (by omega)⟩
