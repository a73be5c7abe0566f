def Ws_X11_climbAllTo : List (Nat × Nat) := [(7, 1), (7, 2), (7, 3), (7, 4), (7, 5), (7, 8), (7, 9)]
set_option maxHeartbeats 4000000 in
set_option maxRecDepth 100000 in
theorem l_X11_climbAllTo_L2 {B : Nat × Nat} {T : Nat} {Z0 : jZ} {I0 : jI} {Q : jZ → jI → jL → Prop} (w0 : WD Z0 I0) (v0 : Nat) (v1 : Int32) (kv0 : jk Z0 v0 11) (uA : Nat) (huA : jr Z0 v0 3 = some uA) (p0 : 0 ≤ v1.toInt ∧ v1.toInt ≤ 23) (p1 : RB Z0 I0 uA (I0 v0 4).toInt 0 0 (1 + 4096 * v1.toInt)) (hQ : ∀  (Z' : jZ) (I' : jI) (L' : jL), WD Z' I' → BUD B Z' T → FR Ws_X11_climbAllTo Z0 I0 Z' I' → CP Z0 Z' → RB Z' I' uA (I0 v0 4).toInt 0 0 (1 + 4096 * (v1.toInt + 1)) → Q Z' I' L') : ∀ (n : Nat) (v2 : Int32) (Z : jZ) (I : jI) (L : jL), WD Z I → BUD B Z T → FR Ws_X11_climbAllTo Z0 I0 Z I → CP Z0 Z →  ((0 ≤ v2.toInt ∧ v2.toInt ≤ 6) ∧ (I v0 4).toInt = (I0 v0 4).toInt ∧ RB Z I uA (I0 v0 4).toInt v2.toNatClampNeg (1 + 4096 * (v1.toInt + 1)) (1 + 4096 * v1.toInt)) → 6 - v2.toInt < (n : Int) → f_X11_climbAllTo_L2 B  Q n v0 v1 v2 Z I L := by
  intro n
  induction n with
  | zero =>
    intro v2 Z I L w_I bd_Z q_I cp_Z  li  me
    exfalso
    omega
  | succ n ih =>
    intro v2 Z I L w_I bd_Z q_I cp_Z  li  me
    unfold f_X11_climbAllTo_L2
    have rv2 := i_rng v2
    obtain ⟨li0, li1, li2⟩ := li
    have kv0_0 := kv0
    have kv0 := (q_I.1 _ _ kv0).1
    have huA_1 : jr Z v0 3 = some uA := (q_I.2.1 v0 11 3 kv0_0 (by decide) (by decide)).trans huA
    have kuA : jk Z uA 18 := by obtain ⟨b9, e9, k9, -⟩ := sh_f w_I.1 kv0 (j := 3) (k := 18) (m := 6) rfl; cases huA_1.symm.trans e9; exact k9
    have xq_I := q_I.1
    have t2 : 0 ≤ (I v0 4).toInt ∧ (I v0 4).toInt ≤ 6 := w_I.fld 11 4 kv0 (by decide)
    refine ⟨fun c3 => ?_, fun c3 => ?_⟩
    · skip
      first | (have t4 : (I v0 4).toInt ≤ v2.toInt := (i_le rfl rfl).mp c3) | (have t4 : (I v0 4).toInt ≤ v2.toInt := (i_le rfl rfl).mp c3) | skip
      exact hQ  Z I L w_I bd_Z q_I cp_Z (by have hh := i_nat (x := v2) rfl (by omega); exact RB.all li2 (by omega))
    · skip
      first | (have t5 : ¬ ((I v0 4).toInt ≤ v2.toInt) := (not_congr (i_le rfl rfl)).mp c3) | (have t5 : ¬ ((I v0 4).toInt ≤ v2.toInt) := (not_congr (i_le rfl rfl)).mp c3) | skip
      refine s_X11_find w_I v0 v2 kv0   (fun r6 p7 => ?_)
      refine ⟨fun c9 => ?_, fun b8 c9 => ?_⟩
      · skip
        unfold f_X11_climbAllTo_b28
        intro x10 ex10
        have rx10 := i_rng x10
        first | (have tx10 : x10.toInt = v2.toInt + (1) := by (rw [ex10]; exact (i_add rfl (show (1 : Int32).toInt = 1 from rfl) (by omega) (by omega)))) | skip
        exact ih x10 Z I L w_I bd_Z q_I cp_Z  (by refine ⟨by omega, by omega, ?_⟩; rw [i_succ (by omega) tx10]; exact RB.skip li2 (p7.2 c9 (by omega) (by omega) uA huA_1))  (by omega)
      · skip
        have kb8 : jk Z b8 5 := by first | exact p7 b8 c9 | exact (p7 b8 c9).1 | exact (p7.1 b8 c9).1
        intro b11 eb11
        obtain ⟨x12, ex12, kb11⟩ := sh_o w_I.1 kb8 (j := 8) (k := 6) rfl
        cases eb11.symm.trans ex12
        obtain ⟨b13, eb13, kb13⟩ := sh_o w_I.1 kb11 (j := 9) (k := 7) rfl
        have hf := li2 v2.toNatClampNeg b8 b11 b13 (by have := i_nat (x := v2) rfl (by omega); omega) ((p7.1 b8 c9).2.2.2 uA huA_1) eb11 eb13
        rw [if_neg (Nat.lt_irrefl _)] at hf
        refine s_X6_raiseOne w_I bd_Z b11 v1 kb11 b13 eb13 (by omega) (fun  Z17 I15 L16 w_I15 bd_Z17 f_I15 c_Z17 p14 => ?_)
        have q_I15 : FR Ws_X11_climbAllTo Z0 I0 Z17 I15 := q_I.trans w0.1 w0.2.1 (f_I15.mono (by decide))
        have cp_Z17 : CP Z0 Z17 := cp_Z.trans q_I.1 c_Z17
        have x_Z17 := f_I15.1
        have k18 := (f_I15.1 _ _ kv0).1
        have k19 := (f_I15.1 _ _ kb8).1
        have k20 := (f_I15.1 _ _ kuA).1
        have k21 := (f_I15.1 _ _ kv0).1
        have e22 := (f_I15.2.1 v0 11 3 kv0 (by decide) (by decide)).trans huA_1
        have k23 := (f_I15.1 _ _ kb11).1
        have k24 := (f_I15.1 _ _ kb8).1
        have e25 := (f_I15.2.1 b8 5 8 kb8 (by decide) (by decide)).trans eb11
        have k26 := (f_I15.1 _ _ kb13).1
        have k27 := (f_I15.1 _ _ kb11).1
        have e28 := (f_I15.2.1 b11 6 9 kb11 (by decide) (by decide)).trans eb13
        have u29 : (I15 v0 4).toInt = (I v0 4).toInt := by rw [f_I15.2.2.1 v0 11 4 kv0 (by decide) (by decide)]
        obtain ⟨p14_0, p14_1⟩ := p14
        unfold f_X11_climbAllTo_b28
        intro x30 ex30
        have rx30 := i_rng x30
        first | (have tx30 : x30.toInt = v2.toInt + (1) := by (rw [ex30]; exact (i_add rfl (show (1 : Int32).toInt = 1 from rfl) (by omega) (by omega)))) | skip
        exact ih x30 Z17 I15 L16 w_I15 bd_Z17 q_I15 cp_Z17  (by refine ⟨by omega, by omega, ?_⟩; rw [i_succ (by omega) tx30]; obtain ⟨u, eu, ku⟩ := sh_o w_I.1 kb11 (j := 10) (k := 7) rfl; exact RB.step w_I kuA f_I15 ((p7.1 b8 c9).2.2.2 uA huA_1) eb11 eb13 eu (RO2.a p14_1) (by omega) li2)  (by omega)
set_option maxHeartbeats 4000000 in
set_option maxRecDepth 100000 in
theorem s_X11_climbAllTo {B : Nat × Nat} {T : Nat} {Z : jZ} {I : jI} {L : jL} (w_I : WD Z I) (bd_Z : BUD B Z T) (v0 : Nat) (v1 : Int32) (kv0 : jk Z v0 11) (uA : Nat) (huA : jr Z v0 3 = some uA) (p0 : 0 ≤ v1.toInt ∧ v1.toInt ≤ 23) (p1 : RB Z I uA (I v0 4).toInt 0 0 (1 + 4096 * v1.toInt)) {Q : jZ → jI → jL → Prop} (hQ : ∀  (Z' : jZ) (I' : jI) (L' : jL), WD Z' I' → BUD B Z' T → FR Ws_X11_climbAllTo Z I Z' I' → CP Z Z' → RB Z' I' uA (I v0 4).toInt 0 0 (1 + 4096 * (v1.toInt + 1)) → Q Z' I' L') : f_X11_climbAllTo B v0 v1 Z I L Q := by
  unfold f_X11_climbAllTo
  have q_I : FR Ws_X11_climbAllTo Z I Z I := FR.rf
  have cp_Z : CP Z Z := CP.rf
  have rv1 := i_rng v1
  have kuA : jk Z uA 18 := by obtain ⟨b9, e9, k9, -⟩ := sh_f w_I.1 kv0 (j := 3) (k := 18) (m := 6) rfl; cases huA.symm.trans e9; exact k9
  have t31 : (0 : Int32).toInt = 0 := rfl
  exact ⟨(6 - (0 : Int32).toInt).toNat + 1, l_X11_climbAllTo_L2 w_I v0 v1 kv0 uA huA p0 p1   hQ  _ (0 : Int32) Z I L w_I bd_Z q_I cp_Z  (by refine ⟨by omega, rfl, ?_⟩; exact RB.start p1)  (by omega)⟩
def Ws_X11_haggle : List (Nat × Nat) := [(3, 2), (6, 4), (6, 5), (6, 6), (6, 7), (6, 8), (6, 12), (6, 13), (6, 14), (6, 15), (7, 1), (7, 2), (7, 3), (7, 4), (7, 5), (7, 8), (7, 9), (8, 2), (8, 8), (11, 13), (11, 14)]
set_option maxHeartbeats 4000000 in
set_option maxRecDepth 100000 in
theorem l_X11_haggle_L53 {B : Nat × Nat} {T : Nat} {Z0 : jZ} {I0 : jI} {Q : Int32 → jZ → jI → jL → Prop} (w0 : WD Z0 I0) (v0 : Nat) (kv0 : jk Z0 v0 11) (uA : Nat) (huA : jr Z0 v0 3 = some uA) (hQ : ∀ (r : Int32) (Z' : jZ) (I' : jI) (L' : jL), WD Z' I' → BUD B Z' T → FR Ws_X11_haggle Z0 I0 Z' I' → CP Z0 Z' → Q r Z' I' L') : ∀ (n : Nat) (v1 : Int32) (v2 : Int32) (Z : jZ) (I : jI) (L : jL), WD Z I → BUD B Z T → FR Ws_X11_haggle Z0 I0 Z I → CP Z0 Z →  ((0 ≤ v2.toInt ∧ v2.toInt ≤ 24) ∧ (I v0 4).toInt = (I0 v0 4).toInt ∧ RB Z I uA (I0 v0 4).toInt 0 0 (1 + 4096 * v2.toInt) ∧ (v1.toInt = 0 ∨ v1.toInt = 1)) → 24 - v2.toInt < (n : Int) → f_X11_haggle_L53 B  Q n v0 v1 v2 Z I L := by
  intro n
  induction n with
  | zero =>
    intro v1 v2 Z I L w_I bd_Z q_I cp_Z  li  me
    exfalso
    omega
  | succ n ih =>
    intro v1 v2 Z I L w_I bd_Z q_I cp_Z  li  me
    unfold f_X11_haggle_L53
    have rv1 := i_rng v1
    have rv2 := i_rng v2
    obtain ⟨li0, li1, li2, li3⟩ := li
    have kv0_0 := kv0
    have kv0 := (q_I.1 _ _ kv0).1
    have huA_1 : jr Z v0 3 = some uA := (q_I.2.1 v0 11 3 kv0_0 (by decide) (by decide)).trans huA
    have kuA : jk Z uA 18 := by obtain ⟨b9, e9, k9, -⟩ := sh_f w_I.1 kv0 (j := 3) (k := 18) (m := 6) rfl; cases huA_1.symm.trans e9; exact k9
    have xq_I := q_I.1
    intro b1 eb1
    obtain ⟨x2, ex2, kb1⟩ := sh_o w_I.1 kv0 (j := 2) (k := 8) rfl
    cases eb1.symm.trans ex2
    have t4 : 0 ≤ (I b1 9).toInt ∧ (I b1 9).toInt ≤ 24 := w_I.fld 8 9 kb1 (by decide)
    refine ⟨fun c5 => ?_, fun c5 => ?_⟩
    · skip
      first | (have t6 : (I b1 9).toInt ≤ v2.toInt := (i_le rfl rfl).mp c5) | (have t6 : (I b1 9).toInt ≤ v2.toInt := (i_le rfl rfl).mp c5) | skip
      refine ⟨by first | exact i_01 rfl (by omega) | omega, ?_⟩
      exact hQ v1 Z I L w_I bd_Z q_I cp_Z 
    · skip
      first | (have t7 : ¬ ((I b1 9).toInt ≤ v2.toInt) := (not_congr (i_le rfl rfl)).mp c5) | (have t7 : ¬ ((I b1 9).toInt ≤ v2.toInt) := (not_congr (i_le rfl rfl)).mp c5) | skip
      refine s_X11_climbAllTo w_I bd_Z v0 v2 kv0 uA huA_1 (by omega) (by rw [li1]; exact li2) (fun  Z11 I9 L10 w_I9 bd_Z11 f_I9 c_Z11 p8 => ?_)
      have q_I9 : FR Ws_X11_haggle Z0 I0 Z11 I9 := q_I.trans w0.1 w0.2.1 (f_I9.mono (by decide))
      have cp_Z11 : CP Z0 Z11 := cp_Z.trans q_I.1 c_Z11
      have x_Z11 := f_I9.1
      have k12 := (f_I9.1 _ _ kv0).1
      have k13 := (f_I9.1 _ _ kuA).1
      have k14 := (f_I9.1 _ _ kv0).1
      have e15 := (f_I9.2.1 v0 11 3 kv0 (by decide) (by decide)).trans huA_1
      have k16 := (f_I9.1 _ _ kb1).1
      have k17 := (f_I9.1 _ _ kv0).1
      have e18 := (f_I9.2.1 v0 11 2 kv0 (by decide) (by decide)).trans eb1
      have u19 : (I9 b1 9).toInt = (I b1 9).toInt := by rw [f_I9.2.2.1 b1 8 9 kb1 (by decide) (by decide)]
      refine s_X11_weigh w_I9 v0 v2 k12  (by omega) (fun  I20 L21 w_I20 f_I20  => ?_)
      have q_I20 : FR Ws_X11_haggle Z0 I0 Z11 I20 := q_I9.trans w0.1 w0.2.1 (f_I20.mono (by decide))
      have u22 : (I20 b1 9).toInt = (I9 b1 9).toInt := by rw [f_I20.2.2.1 b1 8 9 k16 (by decide) (by decide)]
      refine s_X11_mostPaid w_I20 v0 k12   (fun r23 p24 => ?_)
      have rr23 := i_rng r23
      intro b25 eb25
      obtain rfl : b1 = b25 := Option.some.inj (e18.symm.trans eb25)
      intro b26 eb26
      obtain ⟨x27, ex27, kb26, lb26⟩ := sh_f w_I20.1 k16 (j := 2) (k := 14) (m := 24) rfl
      cases eb26.symm.trans ex27
      have o28 : vp_in v2 24 := vi_of rfl (by omega) (by omega)
      refine ⟨o28, ?_⟩
      have t29 : 0 ≤ (I20 b26 v2.toNatClampNeg).toInt ∧ (I20 b26 v2.toNatClampNeg).toInt ≤ 20 := w_I20.arr 8 2 k16 eb26 kb26 rfl rfl _
      intro x30 ex30
      have rx30 := i_rng x30
      first | (have tx30 : x30.toInt = (I20 b26 v2.toNatClampNeg).toInt := by (rw [ex30]; exact rfl)) | (have tx30 : x30.toInt = (I20 b26 v2.toNatClampNeg).toInt := by rw [ex30])
      refine s_X11_isAsked w_I20 x30    (fun r31 p32 => ?_)
      have rr31 := i_rng r31
      refine ⟨fun c33 => ?_, fun c33 => ?_⟩
      · skip
        first | (have t34 : r31.toInt = (0) := (i_eq rfl (show (0 : Int32).toInt = 0 from rfl)).mp c33) | (have t34 : r31.toInt = (0 : Int32).toInt := (i_eq rfl rfl).mp c33) | skip
        unfold f_X11_haggle_b131
        intro x35 ex35
        have rx35 := i_rng x35
        first | (have tx35 : x35.toInt = v2.toInt + (1) := by (rw [ex35]; exact (i_add rfl (show (1 : Int32).toInt = 1 from rfl) (by omega) (by omega)))) | skip
        exact ih v1 x35 Z11 I20 L21 w_I20 bd_Z11 q_I20 cp_Z11  (by refine ⟨by omega, by rw [q_I20.2.2.1 v0 11 4 kv0_0 (by decide) (by decide)], ?_, by omega⟩; rw [show 1 + 4096 * x35.toInt = 1 + 4096 * (v2.toInt + 1) by omega, ← li1]; exact RB.fr w_I9 k13 f_I20 (by decide) p8)  (by omega)
      · skip
        first | (have t36 : ¬ (r31.toInt = (0)) := (not_congr (i_eq rfl (show (0 : Int32).toInt = 0 from rfl))).mp c33) | (have t36 : ¬ (r31.toInt = (0 : Int32).toInt) := (not_congr (i_eq rfl rfl)).mp c33) | skip
        intro b37 eb37
        obtain ⟨x38, ex38, kb37, lb37⟩ := sh_f w_I20.1 k12 (j := 13) (k := 14) (m := 21) rfl
        cases eb37.symm.trans ex38
        have o39 : vp_in r23 21 := vi_of rfl (by omega) (by omega)
        refine ⟨o39, ?_⟩
        intro b40 eb40
        obtain rfl : b37 = b40 := Option.some.inj (eb37.symm.trans eb40)
        have o41 : vp_in x30 21 := vi_of rfl (by omega) (by omega)
        refine ⟨o41, ?_⟩
        refine ⟨fun c42 => ?_, fun c42 => ?_⟩
        · skip
          first | (have t43 : (I20 b37 r23.toNatClampNeg).toInt ≤ (I20 b37 x30.toNatClampNeg).toInt := (i_le rfl rfl).mp c42) | (have t43 : (I20 b37 r23.toNatClampNeg).toInt ≤ (I20 b37 x30.toNatClampNeg).toInt := (i_le rfl rfl).mp c42) | skip
          unfold f_X11_haggle_b131
          intro x44 ex44
          have rx44 := i_rng x44
          first | (have tx44 : x44.toInt = v2.toInt + (1) := by (rw [ex44]; exact (i_add rfl (show (1 : Int32).toInt = 1 from rfl) (by omega) (by omega)))) | skip
          exact ih v1 x44 Z11 I20 L21 w_I20 bd_Z11 q_I20 cp_Z11  (by refine ⟨by omega, by rw [q_I20.2.2.1 v0 11 4 kv0_0 (by decide) (by decide)], ?_, by omega⟩; rw [show 1 + 4096 * x44.toInt = 1 + 4096 * (v2.toInt + 1) by omega, ← li1]; exact RB.fr w_I9 k13 f_I20 (by decide) p8)  (by omega)
        · skip
          first | (have t45 : ¬ ((I20 b37 r23.toNatClampNeg).toInt ≤ (I20 b37 x30.toNatClampNeg).toInt) := (not_congr (i_le rfl rfl)).mp c42) | (have t45 : ¬ ((I20 b37 r23.toNatClampNeg).toInt ≤ (I20 b37 x30.toNatClampNeg).toInt) := (not_congr (i_le rfl rfl)).mp c42) | skip
          intro b46 eb46
          obtain rfl : b1 = b46 := Option.some.inj (e18.symm.trans eb46)
          intro b47 eb47
          obtain rfl : b26 = b47 := Option.some.inj (eb26.symm.trans eb47)
          have o48 : vp_in v2 24 := vi_of rfl (by omega) (by omega)
          refine ⟨o48, ?_⟩
          intro I49 eI49
          have w_I49 : WD Z11 I49 := by rw [eI49]; exact WD_putA w_I20 8 2 k16 eb26 kb26 rfl rfl (by decide) (by constructor <;> omega)
          have f_I49 : FR [(8, 2)] Z11 I20 Z11 I49 := by rw [eI49]; exact FR_upA w_I20.2.1 k16 eb26 kb26 rfl rfl List.mem_cons_self
          have q_I49 : FR Ws_X11_haggle Z0 I0 Z11 I49 := q_I20.trans w0.1 w0.2.1 (f_I49.mono (by decide))
          have u50 : (I49 b1 9).toInt = (I20 b1 9).toInt := by rw [f_I49.2.2.1 b1 8 9 k16 (by decide) (by decide)]
          refine s_X11_measureAllAt w_I49 v0 v2 k12  (by omega) (fun  I51 L52 w_I51 f_I51  => ?_)
          have q_I51 : FR Ws_X11_haggle Z0 I0 Z11 I51 := q_I49.trans w0.1 w0.2.1 (f_I51.mono (by decide))
          have u53 : (I51 b1 9).toInt = (I49 b1 9).toInt := by rw [f_I51.2.2.1 b1 8 9 k16 (by decide) (by decide)]
          unfold f_X11_haggle_b131
          intro x54 ex54
          have rx54 := i_rng x54
          first | (have tx54 : x54.toInt = v2.toInt + (1) := by (rw [ex54]; exact (i_add rfl (show (1 : Int32).toInt = 1 from rfl) (by omega) (by omega)))) | skip
          have t55 : (1 : Int32).toInt = 1 := rfl
          exact ih (1 : Int32) x54 Z11 I51 L52 w_I51 bd_Z11 q_I51 cp_Z11  (by refine ⟨by omega, by rw [q_I51.2.2.1 v0 11 4 kv0_0 (by decide) (by decide)], ?_, by omega⟩; rw [show 1 + 4096 * x54.toInt = 1 + 4096 * (v2.toInt + 1) by omega, ← li1]; exact RB.fr w_I49 k13 f_I51 (by decide) (RB.fr w_I20 k13 f_I49 (by decide) (RB.fr w_I9 k13 f_I20 (by decide) p8)))  (by omega)
set_option maxHeartbeats 4000000 in
set_option maxRecDepth 100000 in
theorem l_X11_haggle_L4 {B : Nat × Nat} {T : Nat} {Z0 : jZ} {I0 : jI} {Q : Int32 → jZ → jI → jL → Prop} (w0 : WD Z0 I0) (v0 : Nat) (kv0 : jk Z0 v0 11) (uA : Nat) (huA : jr Z0 v0 3 = some uA) (v1 : Int32) (hQ : ∀ (r : Int32) (Z' : jZ) (I' : jI) (L' : jL), WD Z' I' → BUD B Z' T → FR Ws_X11_haggle Z0 I0 Z' I' → CP Z0 Z' → Q r Z' I' L') : ∀ (n : Nat) (v2 : Int32) (Z : jZ) (I : jI) (L : jL), WD Z I → BUD B Z T → FR Ws_X11_haggle Z0 I0 Z I → CP Z0 Z →  ((0 ≤ v2.toInt ∧ v2.toInt ≤ 6) ∧ (I v0 4).toInt = (I0 v0 4).toInt ∧ RB Z I uA (I0 v0 4).toInt v2.toNatClampNeg 1 1048576 ∧ (v1.toInt = 0 ∨ v1.toInt = 1)) → 6 - v2.toInt < (n : Int) → f_X11_haggle_L4 B  Q n v0 v1 v2 Z I L := by
  intro n
  induction n with
  | zero =>
    intro v2 Z I L w_I bd_Z q_I cp_Z  li  me
    exfalso
    omega
  | succ n ih =>
    intro v2 Z I L w_I bd_Z q_I cp_Z  li  me
    unfold f_X11_haggle_L4
    have rv2 := i_rng v2
    obtain ⟨li0, li1, li2, li3⟩ := li
    have kv0_0 := kv0
    have kv0 := (q_I.1 _ _ kv0).1
    have huA_1 : jr Z v0 3 = some uA := (q_I.2.1 v0 11 3 kv0_0 (by decide) (by decide)).trans huA
    have kuA : jk Z uA 18 := by obtain ⟨b9, e9, k9, -⟩ := sh_f w_I.1 kv0 (j := 3) (k := 18) (m := 6) rfl; cases huA_1.symm.trans e9; exact k9
    have xq_I := q_I.1
    have t57 : 0 ≤ (I v0 4).toInt ∧ (I v0 4).toInt ≤ 6 := w_I.fld 11 4 kv0 (by decide)
    refine ⟨fun c58 => ?_, fun c58 => ?_⟩
    · skip
      first | (have t59 : (I v0 4).toInt ≤ v2.toInt := (i_le rfl rfl).mp c58) | (have t59 : (I v0 4).toInt ≤ v2.toInt := (i_le rfl rfl).mp c58) | skip
      have t60 : (0 : Int32).toInt = 0 := rfl
      exact ⟨(24 - (0 : Int32).toInt).toNat + 1, l_X11_haggle_L53 w0 v0 kv0_0 uA huA   hQ  _ v1 (0 : Int32) Z I L w_I bd_Z q_I cp_Z  (by have hh := i_nat (x := v2) rfl (by omega); refine ⟨by omega, by omega, ?_, by omega⟩; exact RB.all li2 (by omega))  (by omega)⟩
    · skip
      first | (have t61 : ¬ ((I v0 4).toInt ≤ v2.toInt) := (not_congr (i_le rfl rfl)).mp c58) | (have t61 : ¬ ((I v0 4).toInt ≤ v2.toInt) := (not_congr (i_le rfl rfl)).mp c58) | skip
      refine s_X11_find w_I v0 v2 kv0   (fun r62 p63 => ?_)
      refine ⟨fun c65 => ?_, fun b64 c65 => ?_⟩
      · skip
        unfold f_X11_haggle_b45
        intro x66 ex66
        have rx66 := i_rng x66
        first | (have tx66 : x66.toInt = v2.toInt + (1) := by (rw [ex66]; exact (i_add rfl (show (1 : Int32).toInt = 1 from rfl) (by omega) (by omega)))) | skip
        exact ih x66 Z I L w_I bd_Z q_I cp_Z  (by refine ⟨by omega, by omega, ?_, by omega⟩; rw [i_succ (by omega) tx66]; exact RB.skip li2 (p63.2 c65 (by omega) (by omega) uA huA_1))  (by omega)
      · skip
        have kb64 : jk Z b64 5 := by first | exact p63 b64 c65 | exact (p63 b64 c65).1 | exact (p63.1 b64 c65).1
        intro b67 eb67
        obtain ⟨x68, ex68, kb67⟩ := sh_o w_I.1 kb64 (j := 8) (k := 6) rfl
        cases eb67.symm.trans ex68
        have t69 : (-1 : Int32).toInt = -1 := rfl
        refine s_X6_lay w_I b67 (I b64 3) (I b64 4) (-1 : Int32) kb67   (fun  I70 L71 w_I70 f_I70  => ?_)
        have q_I70 : FR Ws_X11_haggle Z0 I0 Z I70 := q_I.trans w0.1 w0.2.1 (f_I70.mono (by decide))
        have u72 : (I70 v0 4).toInt = (I v0 4).toInt := by rw [f_I70.2.2.1 v0 11 4 kv0 (by decide) (by decide)]
        have u73 : (I70 b64 3).toInt = (I b64 3).toInt := by rw [f_I70.2.2.1 b64 5 3 kb64 (by decide) (by decide)]
        have u74 : (I70 b64 4).toInt = (I b64 4).toInt := by rw [f_I70.2.2.1 b64 5 4 kb64 (by decide) (by decide)]
        intro b75 eb75
        obtain rfl : b67 = b75 := Option.some.inj (eb67.symm.trans eb75)
        obtain ⟨b76, eb76, kb76⟩ := sh_o w_I70.1 kb67 (j := 9) (k := 7) rfl
        obtain ⟨b77, eb77, kb77⟩ := sh_o w_I70.1 kb67 (j := 10) (k := 7) rfl
        refine s_X6_survey w_I70 bd_Z b67 kb67 b76 eb76 b77 eb77  (fun  Z81 I79 L80 w_I79 bd_Z81 f_I79 c_Z81 p78 => ?_)
        have q_I79 : FR Ws_X11_haggle Z0 I0 Z81 I79 := q_I70.trans w0.1 w0.2.1 (f_I79.mono (by decide))
        have cp_Z81 : CP Z0 Z81 := cp_Z.trans q_I70.1 c_Z81
        have x_Z81 := f_I79.1
        have k82 := (f_I79.1 _ _ kv0).1
        have k83 := (f_I79.1 _ _ kb64).1
        have k84 := (f_I79.1 _ _ kuA).1
        have k85 := (f_I79.1 _ _ kv0).1
        have e86 := (f_I79.2.1 v0 11 3 kv0 (by decide) (by decide)).trans huA_1
        have k87 := (f_I79.1 _ _ kb67).1
        have k88 := (f_I79.1 _ _ kb64).1
        have e89 := (f_I79.2.1 b64 5 8 kb64 (by decide) (by decide)).trans eb67
        have k90 := (f_I79.1 _ _ kb76).1
        have k91 := (f_I79.1 _ _ kb67).1
        have e92 := (f_I79.2.1 b67 6 9 kb67 (by decide) (by decide)).trans eb76
        have k93 := (f_I79.1 _ _ kb77).1
        have k94 := (f_I79.1 _ _ kb67).1
        have e95 := (f_I79.2.1 b67 6 10 kb67 (by decide) (by decide)).trans eb77
        have u96 : (I79 v0 4).toInt = (I70 v0 4).toInt := by rw [f_I79.2.2.1 v0 11 4 kv0 (by decide) (by decide)]
        have u97 : (I79 b64 3).toInt = (I70 b64 3).toInt := by rw [f_I79.2.2.1 b64 5 3 kb64 (by decide) (by decide)]
        have u98 : (I79 b64 4).toInt = (I70 b64 4).toInt := by rw [f_I79.2.2.1 b64 5 4 kb64 (by decide) (by decide)]
        obtain ⟨p78_0, p78_1⟩ := p78
        unfold f_X11_haggle_b45
        intro x99 ex99
        have rx99 := i_rng x99
        first | (have tx99 : x99.toInt = v2.toInt + (1) := by (rw [ex99]; exact (i_add rfl (show (1 : Int32).toInt = 1 from rfl) (by omega) (by omega)))) | skip
        exact ih x99 Z81 I79 L80 w_I79 bd_Z81 q_I79 cp_Z81  (by refine ⟨by omega, by omega, ?_, by omega⟩; rw [i_succ (by omega) tx99]; exact RB.step w_I70 kuA f_I79 ((p63.1 b64 c65).2.2.2 uA huA_1) eb67 eb76 eb77 p78_1 (by omega) (RB.fr w_I kuA f_I70 (by decide) li2))  (by omega)
set_option maxHeartbeats 4000000 in
set_option maxRecDepth 100000 in
theorem s_X11_haggle {B : Nat × Nat} {T : Nat} {Z : jZ} {I : jI} {L : jL} (w_I : WD Z I) (bd_Z : BUD B Z T) (v0 : Nat) (kv0 : jk Z v0 11) (uA : Nat) (huA : jr Z v0 3 = some uA) {Q : Int32 → jZ → jI → jL → Prop} (hQ : ∀ (r : Int32) (Z' : jZ) (I' : jI) (L' : jL), WD Z' I' → BUD B Z' T → FR Ws_X11_haggle Z I Z' I' → CP Z Z' → Q r Z' I' L') : f_X11_haggle B v0 Z I L Q := by
  unfold f_X11_haggle
  have q_I : FR Ws_X11_haggle Z I Z I := FR.rf
  have cp_Z : CP Z Z := CP.rf
  have kuA : jk Z uA 18 := by obtain ⟨b9, e9, k9, -⟩ := sh_f w_I.1 kv0 (j := 3) (k := 18) (m := 6) rfl; cases huA.symm.trans e9; exact k9
  have t100 : (0 : Int32).toInt = 0 := rfl
  have t101 : (0 : Int32).toInt = 0 := rfl
  exact ⟨(6 - (0 : Int32).toInt).toNat + 1, l_X11_haggle_L4 w_I v0 kv0 uA huA (0 : Int32)  hQ  _ (0 : Int32) Z I L w_I bd_Z q_I cp_Z  (by refine ⟨by omega, rfl, RB.of w_I kuA, by omega⟩)  (by omega)⟩
