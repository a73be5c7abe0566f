section
def Ws_X11_sign : List (Nat × Nat) := [(10, 0), (10, 1)]
set_option maxHeartbeats 4000000 in
set_option maxRecDepth 100000 in
theorem s_X11_sign {Z : jZ} {I : jI} {L : jL} (w_I : WD Z I) (v0 : Nat) (v1 : Int32) (kv0 : jk Z v0 11) {Q : Int32 → jI → jL → Prop} (hQ : ∀ (r : Int32) (I' : jI) (L' : jL), WD Z I' → FR Ws_X11_sign Z I Z I' → Q r I' L') : f_X11_sign v0 v1 Z I L Q := by
  unfold f_X11_sign
  have q_I : FR Ws_X11_sign Z I Z I := FR.rf
  have rv1 := i_rng v1
  intro b1 eb1
  obtain ⟨x2, ex2, kb1⟩ := sh_o w_I.1 kv0 (j := 0) (k := 10) rfl
  cases eb1.symm.trans ex2
  refine s_X10_append w_I b1 v1 kb1   (fun r3 I4 L5 w_I4 f_I4  => ?_)
  have q_I4 : FR Ws_X11_sign Z I Z I4 := q_I.trans w_I.1 w_I.2.1 (f_I4.mono (by decide))
  have rr3 := i_rng r3
  refine ⟨fun c6 => ?_, fun c6 => ?_⟩
  · skip
    first | (have t7 : r3.toInt = (0) := (i_eq rfl (show (0 : Int32).toInt = 0 from rfl)).mp c6) | (have t7 : r3.toInt = (0 : Int32).toInt := (i_eq rfl rfl).mp c6) | skip
    have t8 : (-1 : Int32).toInt = -1 := rfl
    exact hQ (-1 : Int32) I4 L5 w_I4 q_I4 
  · skip
    first | (have t9 : ¬ (r3.toInt = (0)) := (not_congr (i_eq rfl (show (0 : Int32).toInt = 0 from rfl))).mp c6) | (have t9 : ¬ (r3.toInt = (0 : Int32).toInt) := (not_congr (i_eq rfl rfl)).mp c6) | skip
    intro b10 eb10
    obtain rfl : b1 = b10 := Option.some.inj (eb1.symm.trans eb10)
    have t12 : 0 ≤ (I4 b1 1).toInt ∧ (I4 b1 1).toInt ≤ 80 := w_I4.fld 10 1 kb1 (by decide)
    exact hQ (I4 b1 1) I4 L5 w_I4 q_I4 
def Ws_X11_end : List (Nat × Nat) := [(10, 1)]
set_option maxHeartbeats 4000000 in
set_option maxRecDepth 100000 in
theorem s_X11_end {Z : jZ} {I : jI} {L : jL} (w_I : WD Z I) (v0 : Nat) (v1 : Int32) (kv0 : jk Z v0 11) {Q : Int32 → jI → jL → Prop} (hQ : ∀ (r : Int32) (I' : jI) (L' : jL), WD Z I' → FR Ws_X11_end Z I Z I' → Q r I' L') : f_X11_end v0 v1 Z I L Q := by
  unfold f_X11_end
  have q_I : FR Ws_X11_end Z I Z I := FR.rf
  have rv1 := i_rng v1
  intro b1 eb1
  obtain ⟨x2, ex2, kb1⟩ := sh_o w_I.1 kv0 (j := 0) (k := 10) rfl
  cases eb1.symm.trans ex2
  refine s_X10_cut w_I b1 v1 kb1   (fun r3 I4 L5 w_I4 f_I4  => ?_)
  have q_I4 : FR Ws_X11_end Z I Z I4 := q_I.trans w_I.1 w_I.2.1 (f_I4.mono (by decide))
  have rr3 := i_rng r3
  exact hQ r3 I4 L5 w_I4 q_I4 
set_option maxHeartbeats 4000000 in
set_option maxRecDepth 100000 in
theorem s_X11_find {Z : jZ} {I : jI} {L : jL} (w_I : WD Z I) (v0 : Nat) (v1 : Int32) (kv0 : jk Z v0 11) {Q : Option Nat → jI → jL → Prop} (hQ : ∀ (r : Option Nat), ((∀ b, r = some b → jk Z b 5 ∧ 0 ≤ v1.toInt ∧ v1.toInt ≤ 5 ∧ ∀ A, jr Z v0 3 = some A → jr Z A v1.toNatClampNeg = some b) ∧ (r = none → 0 ≤ v1.toInt → v1.toInt < (I v0 4).toInt → ∀ A, jr Z v0 3 = some A → jr Z A v1.toNatClampNeg = none)) → Q r I L) : f_X11_find v0 v1 Z I L Q := by
  unfold f_X11_find
  have rv1 := i_rng v1
  refine ⟨fun c1 => ?_, fun c1 => ?_⟩
  · skip
    first | (have t2 : v1.toInt < (0) := (i_lt rfl (show (0 : Int32).toInt = 0 from rfl)).mp c1) | (have t2 : v1.toInt < (0 : Int32).toInt := (i_lt rfl rfl).mp c1) | skip
    unfold f_X11_find_b30
    exact hQ none (by first | (refine ⟨?_, fun h => (by cases h)⟩; intro b h; cases h; refine ⟨by assumption, by omega, by omega, fun A hA => ?_⟩; simp_all; done) | (refine ⟨fun b h => (by cases h), fun _ h1 h2 A hA => ?_⟩; first | (exfalso; omega) | (simp_all; done)))
  · skip
    first | (have t3 : ¬ (v1.toInt < (0)) := (not_congr (i_lt rfl (show (0 : Int32).toInt = 0 from rfl))).mp c1) | (have t3 : ¬ (v1.toInt < (0 : Int32).toInt) := (not_congr (i_lt rfl rfl)).mp c1) | skip
    have t5 : 0 ≤ (I v0 4).toInt ∧ (I v0 4).toInt ≤ 6 := w_I.fld 11 4 kv0 (by decide)
    refine ⟨fun c6 => ?_, fun c6 => ?_⟩
    · skip
      first | (have t7 : (I v0 4).toInt ≤ v1.toInt := (i_le rfl rfl).mp c6) | (have t7 : (I v0 4).toInt ≤ v1.toInt := (i_le rfl rfl).mp c6) | skip
      unfold f_X11_find_b30
      exact hQ none (by first | (refine ⟨?_, fun h => (by cases h)⟩; intro b h; cases h; refine ⟨by assumption, by omega, by omega, fun A hA => ?_⟩; simp_all; done) | (refine ⟨fun b h => (by cases h), fun _ h1 h2 A hA => ?_⟩; first | (exfalso; omega) | (simp_all; done)))
    · skip
      first | (have t8 : ¬ ((I v0 4).toInt ≤ v1.toInt) := (not_congr (i_le rfl rfl)).mp c6) | (have t8 : ¬ ((I v0 4).toInt ≤ v1.toInt) := (not_congr (i_le rfl rfl)).mp c6) | skip
      intro b9 eb9
      obtain ⟨x10, ex10, kb9, lb9⟩ := sh_f w_I.1 kv0 (j := 3) (k := 18) (m := 6) rfl
      cases eb9.symm.trans ex10
      refine ⟨fun c11 => ?_, fun c11 => ?_⟩
      · skip
        first | (have t12 : (6) ≤ v1.toInt := (i_le (show (6 : Int32).toInt = 6 from rfl) rfl).mp c11) | (have t12 : (6 : Int32).toInt ≤ v1.toInt := (i_le rfl rfl).mp c11) | skip
        unfold f_X11_find_b30
        exact hQ none (by first | (refine ⟨?_, fun h => (by cases h)⟩; intro b h; cases h; refine ⟨by assumption, by omega, by omega, fun A hA => ?_⟩; simp_all; done) | (refine ⟨fun b h => (by cases h), fun _ h1 h2 A hA => ?_⟩; first | (exfalso; omega) | (simp_all; done)))
      · skip
        first | (have t13 : ¬ ((6) ≤ v1.toInt) := (not_congr (i_le (show (6 : Int32).toInt = 6 from rfl) rfl)).mp c11) | (have t13 : ¬ ((6 : Int32).toInt ≤ v1.toInt) := (not_congr (i_le rfl rfl)).mp c11) | skip
        intro b14 eb14
        obtain rfl : b9 = b14 := Option.some.inj (eb9.symm.trans eb14)
        have o15 : vp_in v1 6 := vi_of rfl (by omega) (by omega)
        refine ⟨o15, ?_⟩
        refine ⟨fun c17 => ?_, fun b16 c17 => ?_⟩
        · skip
          exact hQ none (by first | (refine ⟨?_, fun h => (by cases h)⟩; intro b h; cases h; refine ⟨by assumption, by omega, by omega, fun A hA => ?_⟩; simp_all; done) | (refine ⟨fun b h => (by cases h), fun _ h1 h2 A hA => ?_⟩; first | (exfalso; omega) | (simp_all; done)))
        · skip
          have kb16 := sh_p w_I.1 kb9 c17
          exact hQ (some b16) (by first | (refine ⟨?_, fun h => (by cases h)⟩; intro b h; cases h; refine ⟨by assumption, by omega, by omega, fun A hA => ?_⟩; simp_all; done) | (refine ⟨fun b h => (by cases h), fun _ h1 h2 A hA => ?_⟩; first | (exfalso; omega) | (simp_all; done)))
def Ws_X11_stairs : List (Nat × Nat) := [(2, 8), (4, 0), (4, 1), (4, 4), (5, 5), (5, 6), (5, 7), (8, 0), (8, 1), (8, 2), (8, 3), (8, 9), (9, 0), (9, 1), (9, 2), (9, 3), (9, 4), (9, 5), (9, 6), (9, 7), (9, 8), (10, 1), (11, 5)]
set_option maxHeartbeats 4000000 in
set_option maxRecDepth 100000 in
theorem l_X11_stairs_L76 {Z : jZ} {I0 : jI} {Q : Int32 → jI → jL → Prop} (w0 : WD Z I0) (v0 : Nat) (kv0 : jk Z v0 11) (v1 : Int32) (hQ : ∀ (r : Int32) (I' : jI) (L' : jL), WD Z I' → FR Ws_X11_stairs Z I0 Z I' → Q r I' L') : ∀ (n : Nat) (v2 : Int32) (I : jI) (L : jL), WD Z I → FR Ws_X11_stairs Z I0 Z I →   (0 ≤ v2.toInt ∧ v2.toInt ≤ 2) → 2 - v2.toInt < (n : Int) → f_X11_stairs_L76  Z Q n v0 v1 v2 I L := by
  intro n
  induction n with
  | zero =>
    intro v2 I L w_I q_I   li  me
    exfalso
    omega
  | succ n ih =>
    intro v2 I L w_I q_I   li  me
    unfold f_X11_stairs_L76
    have rv2 := i_rng v2
    have rv1 := i_rng v1
    intro b1 eb1
    obtain ⟨x2, ex2, kb1, lb1⟩ := sh_f w_I.1 kv0 (j := 8) (k := 17) (m := 2) rfl
    cases eb1.symm.trans ex2
    refine ⟨fun c3 => ?_, fun c3 => ?_⟩
    · skip
      first | (have t4 : (2) ≤ v2.toInt := (i_le (show (2 : Int32).toInt = 2 from rfl) rfl).mp c3) | (have t4 : (2 : Int32).toInt ≤ v2.toInt := (i_le rfl rfl).mp c3) | skip
      exact hQ v1 I L w_I q_I 
    · skip
      first | (have t5 : ¬ ((2) ≤ v2.toInt) := (not_congr (i_le (show (2 : Int32).toInt = 2 from rfl) rfl)).mp c3) | (have t5 : ¬ ((2 : Int32).toInt ≤ v2.toInt) := (not_congr (i_le rfl rfl)).mp c3) | skip
      intro b6 eb6
      obtain rfl : b1 = b6 := Option.some.inj (eb1.symm.trans eb6)
      have o7 : vp_in v2 2 := vi_of rfl (by omega) (by omega)
      refine ⟨o7, ?_⟩
      intro b8 eb8
      obtain ⟨x10, ex10, kb8⟩ := w_I.1.2.2.1 b1 kb1 _ (vp_lt (by rw [lb1]; exact o7))
      cases eb8.symm.trans ex10
      intro I11 eI11
      have t12 : (0 : Int32).toInt = 0 := rfl
      have w_I11 : WD Z I11 := by rw [eI11]; exact WD_putF w_I 2 8 kb8 (by decide) (by decide) trivial
      have f_I11 : FR [(2, 8)] Z I Z I11 := by rw [eI11]; exact FR_putF kb8 (by decide) List.mem_cons_self
      have q_I11 : FR Ws_X11_stairs Z I0 Z I11 := q_I.trans w0.1 w0.2.1 (f_I11.mono (by decide))
      first | (have u13 : (I11 b8 8).toInt = (0) := by (rw [eI11, show jpI I b8 8 (0 : Int32) b8 8 = (0 : Int32) from jpI_at] <;> exact (show (0 : Int32).toInt = 0 from rfl))) | skip
      intro x14 ex14
      have rx14 := i_rng x14
      first | (have tx14 : x14.toInt = v2.toInt + (1) := by (rw [ex14]; exact (i_add rfl (show (1 : Int32).toInt = 1 from rfl) (by omega) (by omega)))) | skip
      exact ih x14 I11 L w_I11 q_I11   (by omega)  (by omega)
set_option maxHeartbeats 4000000 in
set_option maxRecDepth 100000 in
theorem l_X11_stairs_L38 {Z : jZ} {I0 : jI} {Q : Int32 → jI → jL → Prop} (w0 : WD Z I0) (v0 : Nat) (kv0 : jk Z v0 11) (v1 : Int32) (hQ : ∀ (r : Int32) (I' : jI) (L' : jL), WD Z I' → FR Ws_X11_stairs Z I0 Z I' → Q r I' L') : ∀ (n : Nat) (v2 : Int32) (I : jI) (L : jL), WD Z I → FR Ws_X11_stairs Z I0 Z I →   (0 ≤ v2.toInt ∧ v2.toInt ≤ 6) → 6 - v2.toInt < (n : Int) → f_X11_stairs_L38  Z Q n v0 v1 v2 I L := by
  intro n
  induction n with
  | zero =>
    intro v2 I L w_I q_I   li  me
    exfalso
    omega
  | succ n ih =>
    intro v2 I L w_I q_I   li  me
    unfold f_X11_stairs_L38
    have rv2 := i_rng v2
    have rv1 := i_rng v1
    have t16 : 0 ≤ (I v0 4).toInt ∧ (I v0 4).toInt ≤ 6 := w_I.fld 11 4 kv0 (by decide)
    refine ⟨fun c17 => ?_, fun c17 => ?_⟩
    · skip
      first | (have t18 : (I v0 4).toInt ≤ v2.toInt := (i_le rfl rfl).mp c17) | (have t18 : (I v0 4).toInt ≤ v2.toInt := (i_le rfl rfl).mp c17) | skip
      intro b19 eb19
      obtain ⟨x20, ex20, kb19, lb19⟩ := sh_f w_I.1 kv0 (j := 5) (k := 14) (m := 8) rfl
      cases eb19.symm.trans ex20
      have t21 : (0 : Int32).toInt = 0 := rfl
      refine s_J7_fill_53178 w_I b19 (0 : Int32) kb19 v0 11 5 kv0 eb19 (by decide) rfl (by omega) (by intro i; first | trivial | exact p1 i _ | exact p2 i _ | (constructor <;> decide)) (fun  I22 L23 w_I22 f_I22  => ?_)
      have q_I22 : FR Ws_X11_stairs Z I0 Z I22 := q_I.trans w0.1 w0.2.1 (f_I22.mono (by first | decide | (intro p hp; simp at hp ⊢; omega) | simp))
      have t24 : (0 : Int32).toInt = 0 := rfl
      exact ⟨(2 - (0 : Int32).toInt).toNat + 1, l_X11_stairs_L76 w0 v0 kv0 v1  hQ   _ (0 : Int32) I22 L23 w_I22 q_I22   (by omega)  (by omega)⟩
    · skip
      first | (have t25 : ¬ ((I v0 4).toInt ≤ v2.toInt) := (not_congr (i_le rfl rfl)).mp c17) | (have t25 : ¬ ((I v0 4).toInt ≤ v2.toInt) := (not_congr (i_le rfl rfl)).mp c17) | skip
      refine s_X11_find w_I v0 v2 kv0   (fun r26 p27 => ?_)
      refine ⟨fun c29 => ?_, fun b28 c29 => ?_⟩
      · skip
        unfold f_X11_stairs_b60
        intro x30 ex30
        have rx30 := i_rng x30
        first | (have tx30 : x30.toInt = v2.toInt + (1) := by (rw [ex30]; exact (i_add rfl (show (1 : Int32).toInt = 1 from rfl) (by omega) (by omega)))) | skip
        exact ih x30 I L w_I q_I   (by omega)  (by omega)
      · skip
        have kb28 : jk Z b28 5 := by first | exact p27 b28 c29 | exact (p27 b28 c29).1 | exact (p27.1 b28 c29).1
        refine s_X5_startAnew w_I b28 kb28   (fun  I31 L32 w_I31 f_I31  => ?_)
        have q_I31 : FR Ws_X11_stairs Z I0 Z I31 := q_I.trans w0.1 w0.2.1 (f_I31.mono (by decide))
        have u33 : (I31 v0 4).toInt = (I v0 4).toInt := by rw [f_I31.2.2.1 v0 11 4 kv0 (by decide) (by decide)]
        unfold f_X11_stairs_b60
        intro x34 ex34
        have rx34 := i_rng x34
        first | (have tx34 : x34.toInt = v2.toInt + (1) := by (rw [ex34]; exact (i_add rfl (show (1 : Int32).toInt = 1 from rfl) (by omega) (by omega)))) | skip
        exact ih x34 I31 L32 w_I31 q_I31   (by omega)  (by omega)
set_option maxHeartbeats 4000000 in
set_option maxRecDepth 100000 in
theorem s_X11_stairs {Z : jZ} {I : jI} {L : jL} (w_I : WD Z I) (v0 : Nat) (kv0 : jk Z v0 11) {Q : Int32 → jI → jL → Prop} (hQ : ∀ (r : Int32) (I' : jI) (L' : jL), WD Z I' → FR Ws_X11_stairs Z I Z I' → Q r I' L') : f_X11_stairs v0 Z I L Q := by
  unfold f_X11_stairs
  have q_I : FR Ws_X11_stairs Z I Z I := FR.rf
  intro b35 eb35
  obtain ⟨x36, ex36, kb35⟩ := sh_o w_I.1 kv0 (j := 1) (k := 9) rfl
  cases eb35.symm.trans ex36
  intro b37 eb37
  obtain ⟨x38, ex38, kb37⟩ := sh_o w_I.1 kv0 (j := 0) (k := 10) rfl
  cases eb37.symm.trans ex38
  refine s_X9_read w_I b35 b37 kb35 kb37   (fun r39 I40 L41 w_I40 f_I40  => ?_)
  have q_I40 : FR Ws_X11_stairs Z I Z I40 := q_I.trans w_I.1 w_I.2.1 (f_I40.mono (by decide))
  have rr39 := i_rng r39
  intro b42 eb42
  obtain rfl : b37 = b42 := Option.some.inj (eb37.symm.trans eb42)
  refine s_X10_clear w_I40 b37 kb37   (fun  I43 L44 w_I43 f_I43  => ?_)
  have q_I43 : FR Ws_X11_stairs Z I Z I43 := q_I40.trans w_I.1 w_I.2.1 (f_I43.mono (by decide))
  refine ⟨fun c45 => ?_, fun c45 => ?_⟩
  · skip
    first | (have t46 : (0) ≤ r39.toInt := (i_le (show (0 : Int32).toInt = 0 from rfl) rfl).mp c45) | (have t46 : (0 : Int32).toInt ≤ r39.toInt := (i_le rfl rfl).mp c45) | skip
    intro b47 eb47
    obtain ⟨x48, ex48, kb47⟩ := sh_o w_I43.1 kv0 (j := 2) (k := 8) rfl
    cases eb47.symm.trans ex48
    intro b49 eb49
    obtain rfl : b35 = b49 := Option.some.inj (eb35.symm.trans eb49)
    refine s_X8_build w_I43 b47 b35 kb47 kb35   (fun  I50 L51 w_I50 f_I50  => ?_)
    have q_I50 : FR Ws_X11_stairs Z I Z I50 := q_I43.trans w_I.1 w_I.2.1 (f_I50.mono (by decide))
    have t52 : (0 : Int32).toInt = 0 := rfl
    exact ⟨(6 - (0 : Int32).toInt).toNat + 1, l_X11_stairs_L38 w_I v0 kv0 r39  hQ   _ (0 : Int32) I50 L51 w_I50 q_I50   (by omega)  (by omega)⟩
  · skip
    first | (have t53 : ¬ ((0) ≤ r39.toInt) := (not_congr (i_le (show (0 : Int32).toInt = 0 from rfl) rfl)).mp c45) | (have t53 : ¬ ((0 : Int32).toInt ≤ r39.toInt) := (not_congr (i_le rfl rfl)).mp c45) | skip
    exact hQ r39 I43 L44 w_I43 q_I43 
set_option maxHeartbeats 4000000 in
set_option maxRecDepth 100000 in
theorem s_X11_step {Z : jZ} {I : jI} {L : jL} (w_I : WD Z I) (v0 : Nat) (v1 : Int32) (v2 : Int32) (kv0 : jk Z v0 11) {Q : Int32 → jI → jL → Prop} (hQ : ∀ (r : Int32), Q r I L) {QX : jI → jL → Prop} (hQX : QX I L) : f_X11_step v0 v1 v2 Z I L Q QX := by
  unfold f_X11_step
  have rv1 := i_rng v1
  have rv2 := i_rng v2
  intro b1 eb1
  obtain ⟨x2, ex2, kb1⟩ := sh_o w_I.1 kv0 (j := 2) (k := 8) rfl
  cases eb1.symm.trans ex2
  refine s_X8_has w_I b1 v1 kb1   (fun r3 p4 => ?_)
  have rr3 := i_rng r3
  refine ⟨fun c5 => ?_, fun c5 => ?_⟩
  · skip
    first | (have t6 : ¬ (r3.toInt = (0)) := (not_congr (i_eq rfl (show (0 : Int32).toInt = 0 from rfl))).mp c5) | (have t6 : ¬ (r3.toInt = (0 : Int32).toInt) := (not_congr (i_eq rfl rfl)).mp c5) | skip
    refine ⟨fun c7 => ?_, fun c7 => ?_⟩
    · skip
      first | (have t8 : v2.toInt = (0) := (i_eq rfl (show (0 : Int32).toInt = 0 from rfl)).mp c7) | (have t8 : v2.toInt = (0 : Int32).toInt := (i_eq rfl rfl).mp c7) | skip
      intro b9 eb9
      obtain rfl : b1 = b9 := Option.some.inj (eb1.symm.trans eb9)
      intro b10 eb10
      obtain ⟨x11, ex11, kb10, lb10⟩ := sh_f w_I.1 kb1 (j := 0) (k := 14) (m := 24) rfl
      cases eb10.symm.trans ex11
      have o12 : vp_in v1 24 := vi_of rfl (by omega) (by omega)
      refine ⟨o12, ?_⟩
      exact hQ (I b10 v1.toNatClampNeg) 
    · skip
      first | (have t13 : ¬ (v2.toInt = (0)) := (not_congr (i_eq rfl (show (0 : Int32).toInt = 0 from rfl))).mp c7) | (have t13 : ¬ (v2.toInt = (0 : Int32).toInt) := (not_congr (i_eq rfl rfl)).mp c7) | skip
      refine ⟨fun c14 => ?_, fun c14 => ?_⟩
      · skip
        first | (have t15 : v2.toInt = (1) := (i_eq rfl (show (1 : Int32).toInt = 1 from rfl)).mp c14) | (have t15 : v2.toInt = (1 : Int32).toInt := (i_eq rfl rfl).mp c14) | skip
        intro b16 eb16
        obtain rfl : b1 = b16 := Option.some.inj (eb1.symm.trans eb16)
        intro b17 eb17
        obtain ⟨x18, ex18, kb17, lb17⟩ := sh_f w_I.1 kb1 (j := 1) (k := 14) (m := 24) rfl
        cases eb17.symm.trans ex18
        have o19 : vp_in v1 24 := vi_of rfl (by omega) (by omega)
        refine ⟨o19, ?_⟩
        exact hQ (I b17 v1.toNatClampNeg) 
      · skip
        first | (have t20 : ¬ (v2.toInt = (1)) := (not_congr (i_eq rfl (show (1 : Int32).toInt = 1 from rfl))).mp c14) | (have t20 : ¬ (v2.toInt = (1 : Int32).toInt) := (not_congr (i_eq rfl rfl)).mp c14) | skip
        refine ⟨fun c21 => ?_, fun c21 => ?_⟩
        · skip
          first | (have t22 : v2.toInt = (2) := (i_eq rfl (show (2 : Int32).toInt = 2 from rfl)).mp c21) | (have t22 : v2.toInt = (2 : Int32).toInt := (i_eq rfl rfl).mp c21) | skip
          intro b23 eb23
          obtain rfl : b1 = b23 := Option.some.inj (eb1.symm.trans eb23)
          intro b24 eb24
          obtain ⟨x25, ex25, kb24, lb24⟩ := sh_f w_I.1 kb1 (j := 2) (k := 14) (m := 24) rfl
          cases eb24.symm.trans ex25
          have o26 : vp_in v1 24 := vi_of rfl (by omega) (by omega)
          refine ⟨o26, ?_⟩
          have t27 : 0 ≤ (I b24 v1.toNatClampNeg).toInt ∧ (I b24 v1.toNatClampNeg).toInt ≤ 20 := w_I.arr 8 2 kb1 eb24 kb24 rfl rfl _
          exact hQ (I b24 v1.toNatClampNeg) 
        · skip
          first | (have t28 : ¬ (v2.toInt = (2)) := (not_congr (i_eq rfl (show (2 : Int32).toInt = 2 from rfl))).mp c21) | (have t28 : ¬ (v2.toInt = (2 : Int32).toInt) := (not_congr (i_eq rfl rfl)).mp c21) | skip
          refine ⟨fun c29 => ?_, fun c29 => ?_⟩
          · skip
            first | (have t30 : v2.toInt = (3) := (i_eq rfl (show (3 : Int32).toInt = 3 from rfl)).mp c29) | (have t30 : v2.toInt = (3 : Int32).toInt := (i_eq rfl rfl).mp c29) | skip
            intro b31 eb31
            obtain rfl : b1 = b31 := Option.some.inj (eb1.symm.trans eb31)
            intro b32 eb32
            obtain ⟨x33, ex33, kb32, lb32⟩ := sh_f w_I.1 kb1 (j := 3) (k := 14) (m := 24) rfl
            cases eb32.symm.trans ex33
            have o34 : vp_in v1 24 := vi_of rfl (by omega) (by omega)
            refine ⟨o34, ?_⟩
            exact hQ (I b32 v1.toNatClampNeg) 
          · skip
            first | (have t35 : ¬ (v2.toInt = (3)) := (not_congr (i_eq rfl (show (3 : Int32).toInt = 3 from rfl))).mp c29) | (have t35 : ¬ (v2.toInt = (3 : Int32).toInt) := (not_congr (i_eq rfl rfl)).mp c29) | skip
            refine ⟨fun c36 => ?_, fun c36 => ?_⟩
            · skip
              first | (have t37 : v2.toInt = (4) := (i_eq rfl (show (4 : Int32).toInt = 4 from rfl)).mp c36) | (have t37 : v2.toInt = (4 : Int32).toInt := (i_eq rfl rfl).mp c36) | skip
              intro b38 eb38
              obtain rfl : b1 = b38 := Option.some.inj (eb1.symm.trans eb38)
              intro b39 eb39
              obtain ⟨x40, ex40, kb39⟩ := sh_o w_I.1 kb1 (j := 4) (k := 4) rfl
              cases eb39.symm.trans ex40
              refine s_X4_mainOf w_I b39 v1 kb39   (fun r41 p42 => ?_)
              have rr41 := i_rng r41
              exact hQ r41 
            · skip
              first | (have t43 : ¬ (v2.toInt = (4)) := (not_congr (i_eq rfl (show (4 : Int32).toInt = 4 from rfl))).mp c36) | (have t43 : ¬ (v2.toInt = (4 : Int32).toInt) := (not_congr (i_eq rfl rfl)).mp c36) | skip
              exact hQX
  · skip
    first | (have t44 : r3.toInt = (0) := (i_eq rfl (show (0 : Int32).toInt = 0 from rfl)).mp c5) | (have t44 : r3.toInt = (0 : Int32).toInt := (i_eq rfl rfl).mp c5) | skip
    exact hQX
def Ws_X11_set : List (Nat × Nat) := [(8, 1), (8, 2)]
set_option maxHeartbeats 4000000 in
set_option maxRecDepth 100000 in
theorem s_X11_set {Z : jZ} {I : jI} {L : jL} (w_I : WD Z I) (v0 : Nat) (v1 : Int32) (v2 : Int32) (v3 : Int32) (kv0 : jk Z v0 11) {Q : Int32 → jI → jL → Prop} (hQ : ∀ (r : Int32) (I' : jI) (L' : jL), WD Z I' → FR Ws_X11_set Z I Z I' → Q r I' L') : f_X11_set v0 v1 v2 v3 Z I L Q := by
  unfold f_X11_set
  have q_I : FR Ws_X11_set Z I Z I := FR.rf
  have rv1 := i_rng v1
  have rv2 := i_rng v2
  have rv3 := i_rng v3
  intro b1 eb1
  obtain ⟨x2, ex2, kb1⟩ := sh_o w_I.1 kv0 (j := 2) (k := 8) rfl
  cases eb1.symm.trans ex2
  refine s_X8_has w_I b1 v1 kb1   (fun r3 p4 => ?_)
  have rr3 := i_rng r3
  refine ⟨fun c5 => ?_, fun c5 => ?_⟩
  · skip
    first | (have t6 : r3.toInt = (0) := (i_eq rfl (show (0 : Int32).toInt = 0 from rfl)).mp c5) | (have t6 : r3.toInt = (0 : Int32).toInt := (i_eq rfl rfl).mp c5) | skip
    have t7 : (-1 : Int32).toInt = -1 := rfl
    exact hQ (-1 : Int32) I L w_I q_I 
  · skip
    first | (have t8 : ¬ (r3.toInt = (0)) := (not_congr (i_eq rfl (show (0 : Int32).toInt = 0 from rfl))).mp c5) | (have t8 : ¬ (r3.toInt = (0 : Int32).toInt) := (not_congr (i_eq rfl rfl)).mp c5) | skip
    refine ⟨fun c9 => ?_, fun c9 => ?_⟩
    · skip
      first | (have t10 : (0) ≤ v3.toInt := (i_le (show (0 : Int32).toInt = 0 from rfl) rfl).mp c9) | (have t10 : (0 : Int32).toInt ≤ v3.toInt := (i_le rfl rfl).mp c9) | skip
      refine ⟨fun c11 => ?_, fun c11 => ?_⟩
      · skip
        first | (have t12 : ¬ (v2.toInt = (0)) := (not_congr (i_eq rfl (show (0 : Int32).toInt = 0 from rfl))).mp c11) | (have t12 : ¬ (v2.toInt = (0 : Int32).toInt) := (not_congr (i_eq rfl rfl)).mp c11) | skip
        unfold f_X11_set_b54
        refine ⟨fun c13 => ?_, fun c13 => ?_⟩
        · skip
          first | (have t14 : ¬ (v2.toInt = (1)) := (not_congr (i_eq rfl (show (1 : Int32).toInt = 1 from rfl))).mp c13) | (have t14 : ¬ (v2.toInt = (1 : Int32).toInt) := (not_congr (i_eq rfl rfl)).mp c13) | skip
          have t15 : (-1 : Int32).toInt = -1 := rfl
          exact hQ (-1 : Int32) I L w_I q_I 
        · skip
          first | (have t16 : v2.toInt = (1) := (i_eq rfl (show (1 : Int32).toInt = 1 from rfl)).mp c13) | (have t16 : v2.toInt = (1 : Int32).toInt := (i_eq rfl rfl).mp c13) | skip
          refine ⟨fun c17 => ?_, fun c17 => ?_⟩
          · skip
            first | (have t18 : (9) < v3.toInt := (i_lt (show (9 : Int32).toInt = 9 from rfl) rfl).mp c17) | (have t18 : (9 : Int32).toInt < v3.toInt := (i_lt rfl rfl).mp c17) | skip
            have t19 : (-1 : Int32).toInt = -1 := rfl
            exact hQ (-1 : Int32) I L w_I q_I 
          · skip
            first | (have t20 : ¬ ((9) < v3.toInt) := (not_congr (i_lt (show (9 : Int32).toInt = 9 from rfl) rfl)).mp c17) | (have t20 : ¬ ((9 : Int32).toInt < v3.toInt) := (not_congr (i_lt rfl rfl)).mp c17) | skip
            intro b21 eb21
            obtain rfl : b1 = b21 := Option.some.inj (eb1.symm.trans eb21)
            intro b22 eb22
            obtain ⟨x23, ex23, kb22, lb22⟩ := sh_f w_I.1 kb1 (j := 1) (k := 14) (m := 24) rfl
            cases eb22.symm.trans ex23
            have o24 : vp_in v1 24 := vi_of rfl (by omega) (by omega)
            refine ⟨o24, ?_⟩
            intro x25 ex25
            have rx25 := i_rng x25
            first | (have tx25 : x25.toInt = (I b22 v1.toNatClampNeg).toInt := by (rw [ex25]; exact rfl)) | (have tx25 : x25.toInt = (I b22 v1.toNatClampNeg).toInt := by rw [ex25])
            intro b26 eb26
            obtain rfl : b1 = b26 := Option.some.inj (eb1.symm.trans eb26)
            intro b27 eb27
            obtain rfl : b22 = b27 := Option.some.inj (eb22.symm.trans eb27)
            have o28 : vp_in v1 24 := vi_of rfl (by omega) (by omega)
            refine ⟨o28, ?_⟩
            intro I29 eI29
            have w_I29 : WD Z I29 := by rw [eI29]; exact WD_putA w_I 8 1 kb1 eb22 kb22 rfl rfl (by decide) trivial
            have f_I29 : FR [(8, 1)] Z I Z I29 := by rw [eI29]; exact FR_upA w_I.2.1 kb1 eb22 kb22 rfl rfl List.mem_cons_self
            have q_I29 : FR Ws_X11_set Z I Z I29 := q_I.trans w_I.1 w_I.2.1 (f_I29.mono (by decide))
            exact hQ x25 I29 L w_I29 q_I29 
      · skip
        first | (have t30 : v2.toInt = (0) := (i_eq rfl (show (0 : Int32).toInt = 0 from rfl)).mp c11) | (have t30 : v2.toInt = (0 : Int32).toInt := (i_eq rfl rfl).mp c11) | skip
        refine ⟨fun c31 => ?_, fun c31 => ?_⟩
        · skip
          first | (have t32 : (20) < v3.toInt := (i_lt (show (20 : Int32).toInt = 20 from rfl) rfl).mp c31) | (have t32 : (20 : Int32).toInt < v3.toInt := (i_lt rfl rfl).mp c31) | skip
          unfold f_X11_set_b54
          refine ⟨fun c33 => ?_, fun c33 => ?_⟩
          · skip
            first | (have t34 : ¬ (v2.toInt = (1)) := (not_congr (i_eq rfl (show (1 : Int32).toInt = 1 from rfl))).mp c33) | (have t34 : ¬ (v2.toInt = (1 : Int32).toInt) := (not_congr (i_eq rfl rfl)).mp c33) | skip
            have t35 : (-1 : Int32).toInt = -1 := rfl
            exact hQ (-1 : Int32) I L w_I q_I 
          · skip
            first | (have t36 : v2.toInt = (1) := (i_eq rfl (show (1 : Int32).toInt = 1 from rfl)).mp c33) | (have t36 : v2.toInt = (1 : Int32).toInt := (i_eq rfl rfl).mp c33) | skip
            refine ⟨fun c37 => ?_, fun c37 => ?_⟩
            · skip
              first | (have t38 : (9) < v3.toInt := (i_lt (show (9 : Int32).toInt = 9 from rfl) rfl).mp c37) | (have t38 : (9 : Int32).toInt < v3.toInt := (i_lt rfl rfl).mp c37) | skip
              have t39 : (-1 : Int32).toInt = -1 := rfl
              exact hQ (-1 : Int32) I L w_I q_I 
            · skip
              first | (have t40 : ¬ ((9) < v3.toInt) := (not_congr (i_lt (show (9 : Int32).toInt = 9 from rfl) rfl)).mp c37) | (have t40 : ¬ ((9 : Int32).toInt < v3.toInt) := (not_congr (i_lt rfl rfl)).mp c37) | skip
              intro b41 eb41
              obtain rfl : b1 = b41 := Option.some.inj (eb1.symm.trans eb41)
              intro b42 eb42
              obtain ⟨x43, ex43, kb42, lb42⟩ := sh_f w_I.1 kb1 (j := 1) (k := 14) (m := 24) rfl
              cases eb42.symm.trans ex43
              have o44 : vp_in v1 24 := vi_of rfl (by omega) (by omega)
              refine ⟨o44, ?_⟩
              intro x45 ex45
              have rx45 := i_rng x45
              first | (have tx45 : x45.toInt = (I b42 v1.toNatClampNeg).toInt := by (rw [ex45]; exact rfl)) | (have tx45 : x45.toInt = (I b42 v1.toNatClampNeg).toInt := by rw [ex45])
              intro b46 eb46
              obtain rfl : b1 = b46 := Option.some.inj (eb1.symm.trans eb46)
              intro b47 eb47
              obtain rfl : b42 = b47 := Option.some.inj (eb42.symm.trans eb47)
              have o48 : vp_in v1 24 := vi_of rfl (by omega) (by omega)
              refine ⟨o48, ?_⟩
              intro I49 eI49
              have w_I49 : WD Z I49 := by rw [eI49]; exact WD_putA w_I 8 1 kb1 eb42 kb42 rfl rfl (by decide) trivial
              have f_I49 : FR [(8, 1)] Z I Z I49 := by rw [eI49]; exact FR_upA w_I.2.1 kb1 eb42 kb42 rfl rfl List.mem_cons_self
              have q_I49 : FR Ws_X11_set Z I Z I49 := q_I.trans w_I.1 w_I.2.1 (f_I49.mono (by decide))
              exact hQ x45 I49 L w_I49 q_I49 
        · skip
          first | (have t50 : ¬ ((20) < v3.toInt) := (not_congr (i_lt (show (20 : Int32).toInt = 20 from rfl) rfl)).mp c31) | (have t50 : ¬ ((20 : Int32).toInt < v3.toInt) := (not_congr (i_lt rfl rfl)).mp c31) | skip
          intro b51 eb51
          obtain rfl : b1 = b51 := Option.some.inj (eb1.symm.trans eb51)
          intro b52 eb52
          obtain ⟨x53, ex53, kb52, lb52⟩ := sh_f w_I.1 kb1 (j := 2) (k := 14) (m := 24) rfl
          cases eb52.symm.trans ex53
          have o54 : vp_in v1 24 := vi_of rfl (by omega) (by omega)
          refine ⟨o54, ?_⟩
          have t55 : 0 ≤ (I b52 v1.toNatClampNeg).toInt ∧ (I b52 v1.toNatClampNeg).toInt ≤ 20 := w_I.arr 8 2 kb1 eb52 kb52 rfl rfl _
          intro x56 ex56
          have rx56 := i_rng x56
          first | (have tx56 : x56.toInt = (I b52 v1.toNatClampNeg).toInt := by (rw [ex56]; exact rfl)) | (have tx56 : x56.toInt = (I b52 v1.toNatClampNeg).toInt := by rw [ex56])
          intro b57 eb57
          obtain rfl : b1 = b57 := Option.some.inj (eb1.symm.trans eb57)
          intro b58 eb58
          obtain rfl : b52 = b58 := Option.some.inj (eb52.symm.trans eb58)
          have o59 : vp_in v1 24 := vi_of rfl (by omega) (by omega)
          refine ⟨o59, ?_⟩
          intro I60 eI60
          have w_I60 : WD Z I60 := by rw [eI60]; exact WD_putA w_I 8 2 kb1 eb52 kb52 rfl rfl (by decide) (by constructor <;> omega)
          have f_I60 : FR [(8, 2)] Z I Z I60 := by rw [eI60]; exact FR_upA w_I.2.1 kb1 eb52 kb52 rfl rfl List.mem_cons_self
          have q_I60 : FR Ws_X11_set Z I Z I60 := q_I.trans w_I.1 w_I.2.1 (f_I60.mono (by decide))
          exact hQ x56 I60 L w_I60 q_I60 
    · skip
      first | (have t61 : ¬ ((0) ≤ v3.toInt) := (not_congr (i_le (show (0 : Int32).toInt = 0 from rfl) rfl)).mp c9) | (have t61 : ¬ ((0 : Int32).toInt ≤ v3.toInt) := (not_congr (i_le rfl rfl)).mp c9) | skip
      have t62 : (-1 : Int32).toInt = -1 := rfl
      exact hQ (-1 : Int32) I L w_I q_I 
set_option maxHeartbeats 4000000 in
set_option maxRecDepth 100000 in
theorem s_X11_entryOf {Z : jZ} {I : jI} {L : jL} (w_I : WD Z I) (v0 : Int32) (v1 : Int32) {Q : Int32 → jI → jL → Prop} (hQ : ∀ (r : Int32), (0 ≤ r.toInt ∧ r.toInt ≤ 20) → Q r I L) : f_X11_entryOf v0 v1 Z I L Q := by
  unfold f_X11_entryOf
  have rv0 := i_rng v0
  have rv1 := i_rng v1
  refine ⟨fun c1 => ?_, fun c1 => ?_⟩
  · skip
    first | (have t2 : ¬ (v0.toInt = (0)) := (not_congr (i_eq rfl (show (0 : Int32).toInt = 0 from rfl))).mp c1) | (have t2 : ¬ (v0.toInt = (0 : Int32).toInt) := (not_congr (i_eq rfl rfl)).mp c1) | skip
    refine ⟨fun c3 => ?_, fun c3 => ?_⟩
    · skip
      first | (have t4 : ¬ (v0.toInt = (1)) := (not_congr (i_eq rfl (show (1 : Int32).toInt = 1 from rfl))).mp c3) | (have t4 : ¬ (v0.toInt = (1 : Int32).toInt) := (not_congr (i_eq rfl rfl)).mp c3) | skip
      unfold f_X11_entryOf_b20
      try (have t5 : (if (0 : Int32) < (if v1 < (20 : Int32) then v1 else (20 : Int32)) then (if v1 < (20 : Int32) then v1 else (20 : Int32)) else (0 : Int32)).toInt = (max (0) (min (20) v1.toInt)) := (i_max (show (0 : Int32).toInt = 0 from rfl) (i_min (show (20 : Int32).toInt = 20 from rfl) rfl)))
      exact hQ (if (0 : Int32) < (if v1 < (20 : Int32) then v1 else (20 : Int32)) then (if v1 < (20 : Int32) then v1 else (20 : Int32)) else (0 : Int32)) (by omega)
    · skip
      first | (have t6 : v0.toInt = (1) := (i_eq rfl (show (1 : Int32).toInt = 1 from rfl)).mp c3) | (have t6 : v0.toInt = (1 : Int32).toInt := (i_eq rfl rfl).mp c3) | skip
      unfold f_X11_entryOf_b20
      try (have t7 : (if (0 : Int32) < (if (v1.toInt16.toInt32) < (20 : Int32) then (v1.toInt16.toInt32) else (20 : Int32)) then (if (v1.toInt16.toInt32) < (20 : Int32) then (v1.toInt16.toInt32) else (20 : Int32)) else (0 : Int32)).toInt = (max (0) (min (20) (v1.toInt16.toInt32).toInt)) := (i_max (show (0 : Int32).toInt = 0 from rfl) (i_min (show (20 : Int32).toInt = 20 from rfl) rfl)))
      exact hQ (if (0 : Int32) < (if (v1.toInt16.toInt32) < (20 : Int32) then (v1.toInt16.toInt32) else (20 : Int32)) then (if (v1.toInt16.toInt32) < (20 : Int32) then (v1.toInt16.toInt32) else (20 : Int32)) else (0 : Int32)) (by omega)
  · skip
    first | (have t8 : v0.toInt = (0) := (i_eq rfl (show (0 : Int32).toInt = 0 from rfl)).mp c1) | (have t8 : v0.toInt = (0 : Int32).toInt := (i_eq rfl rfl).mp c1) | skip
    unfold f_X11_entryOf_b20
    try (have t9 : (if (0 : Int32) < (if (v1.toInt8.toInt32) < (20 : Int32) then (v1.toInt8.toInt32) else (20 : Int32)) then (if (v1.toInt8.toInt32) < (20 : Int32) then (v1.toInt8.toInt32) else (20 : Int32)) else (0 : Int32)).toInt = (max (0) (min (20) (v1.toInt8.toInt32).toInt)) := (i_max (show (0 : Int32).toInt = 0 from rfl) (i_min (show (20 : Int32).toInt = 20 from rfl) rfl)))
    exact hQ (if (0 : Int32) < (if (v1.toInt8.toInt32) < (20 : Int32) then (v1.toInt8.toInt32) else (20 : Int32)) then (if (v1.toInt8.toInt32) < (20 : Int32) then (v1.toInt8.toInt32) else (20 : Int32)) else (0 : Int32)) (by omega)
def Ws_X11_sheet : List (Nat × Nat) := [(8, 2)]
set_option maxHeartbeats 4000000 in
set_option maxRecDepth 100000 in
theorem l_X11_sheet_L56 {Z : jZ} {I0 : jI} {Q : Int32 → jI → jL → Prop} (w0 : WD Z I0) (v0 : Nat) (v1 : Int32) (v2 : Int32) (v3 : Int32) (v4 : Int32) (kv0 : jk Z v0 11) (v5 : Int32) (v6 : Int32) (hQ : ∀ (r : Int32) (I' : jI) (L' : jL), WD Z I' → FR Ws_X11_sheet Z I0 Z I' → Q r I' L') : ∀ (n : Nat) (v7 : Int32) (I : jI) (L : jL), WD Z I → FR Ws_X11_sheet Z I0 Z I →   (0 ≤ v7.toInt ∧ v7.toInt ≤ 24) → 24 - v7.toInt < (n : Int) → f_X11_sheet_L56  Z Q n v0 v1 v3 v4 v5 v6 v7 I L := by
  intro n
  induction n with
  | zero =>
    intro v7 I L w_I q_I   li  me
    exfalso
    omega
  | succ n ih =>
    intro v7 I L w_I q_I   li  me
    unfold f_X11_sheet_L56
    have rv7 := i_rng v7
    have rv5 := i_rng v5
    have rv6 := i_rng v6
    have rv1 := i_rng v1
    have rv2 := i_rng v2
    have rv3 := i_rng v3
    have rv4 := i_rng v4
    intro b1 eb1
    obtain ⟨x2, ex2, kb1⟩ := sh_o w_I.1 kv0 (j := 2) (k := 8) rfl
    cases eb1.symm.trans ex2
    have t4 : 0 ≤ (I b1 9).toInt ∧ (I b1 9).toInt ≤ 24 := w_I.fld 8 9 kb1 (by decide)
    refine ⟨fun c5 => ?_, fun c5 => ?_⟩
    · skip
      first | (have t6 : (I b1 9).toInt ≤ v7.toInt := (i_le rfl rfl).mp c5) | (have t6 : (I b1 9).toInt ≤ v7.toInt := (i_le rfl rfl).mp c5) | skip
      refine ⟨fun c7 => ?_, fun c7 => ?_⟩
      · skip
        first | (have t8 : v5.toInt = (0) := (i_eq rfl (show (0 : Int32).toInt = 0 from rfl)).mp c7) | (have t8 : v5.toInt = (0 : Int32).toInt := (i_eq rfl rfl).mp c7) | skip
        intro b9 eb9
        obtain rfl : b1 = b9 := Option.some.inj (eb1.symm.trans eb9)
        refine s_X8_sumOfAsks w_I b1 kb1   (fun r10  => ?_)
        have rr10 := i_rng r10
        exact hQ r10 I L w_I q_I 
      · skip
        first | (have t11 : ¬ (v5.toInt = (0)) := (not_congr (i_eq rfl (show (0 : Int32).toInt = 0 from rfl))).mp c7) | (have t11 : ¬ (v5.toInt = (0 : Int32).toInt) := (not_congr (i_eq rfl rfl)).mp c7) | skip
        have t12 : (-3 : Int32).toInt = -3 := rfl
        exact hQ (-3 : Int32) I L w_I q_I 
    · skip
      first | (have t13 : ¬ ((I b1 9).toInt ≤ v7.toInt) := (not_congr (i_le rfl rfl)).mp c5) | (have t13 : ¬ ((I b1 9).toInt ≤ v7.toInt) := (not_congr (i_le rfl rfl)).mp c5) | skip
      intro b14 eb14
      obtain rfl : b1 = b14 := Option.some.inj (eb1.symm.trans eb14)
      intro b15 eb15
      obtain ⟨x16, ex16, kb15, lb15⟩ := sh_f w_I.1 kb1 (j := 2) (k := 14) (m := 24) rfl
      cases eb15.symm.trans ex16
      refine ⟨fun c17 => ?_, fun c17 => ?_⟩
      · skip
        first | (have t18 : v6.toInt ≤ v7.toInt := (i_le rfl rfl).mp c17) | (have t18 : v6.toInt ≤ v7.toInt := (i_le rfl rfl).mp c17) | skip
        unfold f_X11_sheet_b99
        have o19 : vp_in v7 (jlen Z b15) := vi_of rfl (by omega) (by omega)
        refine ⟨o19, ?_⟩
        intro I20 eI20
        have t21 : (0 : Int32).toInt = 0 := rfl
        have w_I20 : WD Z I20 := by rw [eI20]; exact WD_putA w_I 8 2 kb1 eb15 kb15 rfl rfl (by decide) (by constructor <;> omega)
        have f_I20 : FR [(8, 2)] Z I Z I20 := by rw [eI20]; exact FR_upA w_I.2.1 kb1 eb15 kb15 rfl rfl List.mem_cons_self
        have q_I20 : FR Ws_X11_sheet Z I0 Z I20 := q_I.trans w0.1 w0.2.1 (f_I20.mono (by decide))
        have u22 : (I20 b1 9).toInt = (I b1 9).toInt := by rw [f_I20.2.2.1 b1 8 9 kb1 (by decide) (by decide)]
        intro x23 ex23
        have rx23 := i_rng x23
        first | (have tx23 : x23.toInt = v7.toInt + (1) := by (rw [ex23]; exact (i_add rfl (show (1 : Int32).toInt = 1 from rfl) (by omega) (by omega)))) | skip
        exact ih x23 I20 L w_I20 q_I20   (by omega)  (by omega)
      · skip
        first | (have t24 : ¬ (v6.toInt ≤ v7.toInt) := (not_congr (i_le rfl rfl)).mp c17) | (have t24 : ¬ (v6.toInt ≤ v7.toInt) := (not_congr (i_le rfl rfl)).mp c17) | skip
        try (have t25 : (v3 + (v7 * v4)).toInt = (v3.toInt + (v7 * v4).toInt) := (i_add rfl rfl (by omega) (by omega)))
        refine s_X11_entryOf w_I v1 (v3 + (v7 * v4))    (fun r26 p27 => ?_)
        have rr26 := i_rng r26
        unfold f_X11_sheet_b99
        have o28 : vp_in v7 (jlen Z b15) := vi_of rfl (by omega) (by omega)
        refine ⟨o28, ?_⟩
        intro I29 eI29
        have w_I29 : WD Z I29 := by rw [eI29]; exact WD_putA w_I 8 2 kb1 eb15 kb15 rfl rfl (by decide) (by constructor <;> omega)
        have f_I29 : FR [(8, 2)] Z I Z I29 := by rw [eI29]; exact FR_upA w_I.2.1 kb1 eb15 kb15 rfl rfl List.mem_cons_self
        have q_I29 : FR Ws_X11_sheet Z I0 Z I29 := q_I.trans w0.1 w0.2.1 (f_I29.mono (by decide))
        have u30 : (I29 b1 9).toInt = (I b1 9).toInt := by rw [f_I29.2.2.1 b1 8 9 kb1 (by decide) (by decide)]
        intro x31 ex31
        have rx31 := i_rng x31
        first | (have tx31 : x31.toInt = v7.toInt + (1) := by (rw [ex31]; exact (i_add rfl (show (1 : Int32).toInt = 1 from rfl) (by omega) (by omega)))) | skip
        exact ih x31 I29 L w_I29 q_I29   (by omega)  (by omega)
set_option maxHeartbeats 4000000 in
set_option maxRecDepth 100000 in
theorem s_X11_sheet {Z : jZ} {I : jI} {L : jL} (w_I : WD Z I) (v0 : Nat) (v1 : Int32) (v2 : Int32) (v3 : Int32) (v4 : Int32) (kv0 : jk Z v0 11) {Q : Int32 → jI → jL → Prop} (hQ : ∀ (r : Int32) (I' : jI) (L' : jL), WD Z I' → FR Ws_X11_sheet Z I Z I' → Q r I' L') : f_X11_sheet v0 v1 v2 v3 v4 Z I L Q := by
  unfold f_X11_sheet
  have q_I : FR Ws_X11_sheet Z I Z I := FR.rf
  have rv1 := i_rng v1
  have rv2 := i_rng v2
  have rv3 := i_rng v3
  have rv4 := i_rng v4
  refine ⟨fun c32 => ?_, fun c32 => ?_⟩
  · skip
    first | (have t33 : v1.toInt < (0) := (i_lt rfl (show (0 : Int32).toInt = 0 from rfl)).mp c32) | (have t33 : v1.toInt < (0 : Int32).toInt := (i_lt rfl rfl).mp c32) | skip
    have t34 : (-1 : Int32).toInt = -1 := rfl
    exact hQ (-1 : Int32) I L w_I q_I 
  · skip
    first | (have t35 : ¬ (v1.toInt < (0)) := (not_congr (i_lt rfl (show (0 : Int32).toInt = 0 from rfl))).mp c32) | (have t35 : ¬ (v1.toInt < (0 : Int32).toInt) := (not_congr (i_lt rfl rfl)).mp c32) | skip
    refine ⟨fun c36 => ?_, fun c36 => ?_⟩
    · skip
      first | (have t37 : (3) < v1.toInt := (i_lt (show (3 : Int32).toInt = 3 from rfl) rfl).mp c36) | (have t37 : (3 : Int32).toInt < v1.toInt := (i_lt rfl rfl).mp c36) | skip
      have t38 : (-1 : Int32).toInt = -1 := rfl
      exact hQ (-1 : Int32) I L w_I q_I 
    · skip
      first | (have t39 : ¬ ((3) < v1.toInt) := (not_congr (i_lt (show (3 : Int32).toInt = 3 from rfl) rfl)).mp c36) | (have t39 : ¬ ((3 : Int32).toInt < v1.toInt) := (not_congr (i_lt rfl rfl)).mp c36) | skip
      refine ⟨fun c40 => ?_, fun c40 => ?_⟩
      · skip
        first | (have t41 : v2.toInt ≤ (24) := (i_le rfl (show (24 : Int32).toInt = 24 from rfl)).mp c40) | (have t41 : v2.toInt ≤ (24 : Int32).toInt := (i_le rfl rfl).mp c40) | skip
        refine ⟨fun c42 => ?_, fun c42 => ?_⟩
        · skip
          first | (have t43 : ¬ (v1.toInt = (3)) := (not_congr (i_eq rfl (show (3 : Int32).toInt = 3 from rfl))).mp c42) | (have t43 : ¬ (v1.toInt = (3 : Int32).toInt) := (not_congr (i_eq rfl rfl)).mp c42) | skip
          unfold f_X11_sheet_b27
          refine ⟨fun c44 => ?_, fun c44 => ?_⟩
          · skip
            first | (have t45 : ¬ ((0) = (0)) := (not_congr (i_eq (show (0 : Int32).toInt = 0 from rfl) (show (0 : Int32).toInt = 0 from rfl))).mp c44) | (have t45 : ¬ ((0 : Int32).toInt = (0 : Int32).toInt) := (not_congr (i_eq rfl rfl)).mp c44) | skip
            unfold f_X11_sheet_b41
            refine ⟨fun c46 => ?_, fun c46 => ?_⟩
            · skip
              first | (have t47 : (0) = (0) := (i_eq (show (0 : Int32).toInt = 0 from rfl) (show (0 : Int32).toInt = 0 from rfl)).mp c46) | (have t47 : (0 : Int32).toInt = (0 : Int32).toInt := (i_eq rfl rfl).mp c46) | skip
              unfold f_X11_sheet_b51
              have t48 : (0 : Int32).toInt = 0 := rfl
              have t49 : (0 : Int32).toInt = 0 := rfl
              exact ⟨(24 - (0 : Int32).toInt).toNat + 1, l_X11_sheet_L56 w_I v0 v1 v2 v3 v4 kv0 (0 : Int32) v2  hQ   _ (0 : Int32) I L w_I q_I   (by omega)  (by omega)⟩
            · skip
              first | (have t50 : ¬ ((0) = (0)) := (not_congr (i_eq (show (0 : Int32).toInt = 0 from rfl) (show (0 : Int32).toInt = 0 from rfl))).mp c46) | (have t50 : ¬ ((0 : Int32).toInt = (0 : Int32).toInt) := (not_congr (i_eq rfl rfl)).mp c46) | skip
              unfold f_X11_sheet_b51
              have t51 : (0 : Int32).toInt = 0 := rfl
              have t52 : (0 : Int32).toInt = 0 := rfl
              have t53 : (0 : Int32).toInt = 0 := rfl
              exact ⟨(24 - (0 : Int32).toInt).toNat + 1, l_X11_sheet_L56 w_I v0 v1 v2 v3 v4 kv0 (0 : Int32) (0 : Int32)  hQ   _ (0 : Int32) I L w_I q_I   (by omega)  (by omega)⟩
          · skip
            first | (have t54 : (0) = (0) := (i_eq (show (0 : Int32).toInt = 0 from rfl) (show (0 : Int32).toInt = 0 from rfl)).mp c44) | (have t54 : (0 : Int32).toInt = (0 : Int32).toInt := (i_eq rfl rfl).mp c44) | skip
            refine ⟨fun c55 => ?_, fun c55 => ?_⟩
            · skip
              first | (have t56 : (0) ≤ v2.toInt := (i_le (show (0 : Int32).toInt = 0 from rfl) rfl).mp c55) | (have t56 : (0 : Int32).toInt ≤ v2.toInt := (i_le rfl rfl).mp c55) | skip
              unfold f_X11_sheet_b41
              refine ⟨fun c57 => ?_, fun c57 => ?_⟩
              · skip
                first | (have t58 : (0) = (0) := (i_eq (show (0 : Int32).toInt = 0 from rfl) (show (0 : Int32).toInt = 0 from rfl)).mp c57) | (have t58 : (0 : Int32).toInt = (0 : Int32).toInt := (i_eq rfl rfl).mp c57) | skip
                unfold f_X11_sheet_b51
                have t59 : (0 : Int32).toInt = 0 := rfl
                have t60 : (0 : Int32).toInt = 0 := rfl
                exact ⟨(24 - (0 : Int32).toInt).toNat + 1, l_X11_sheet_L56 w_I v0 v1 v2 v3 v4 kv0 (0 : Int32) v2  hQ   _ (0 : Int32) I L w_I q_I   (by omega)  (by omega)⟩
              · skip
                first | (have t61 : ¬ ((0) = (0)) := (not_congr (i_eq (show (0 : Int32).toInt = 0 from rfl) (show (0 : Int32).toInt = 0 from rfl))).mp c57) | (have t61 : ¬ ((0 : Int32).toInt = (0 : Int32).toInt) := (not_congr (i_eq rfl rfl)).mp c57) | skip
                unfold f_X11_sheet_b51
                have t62 : (0 : Int32).toInt = 0 := rfl
                have t63 : (0 : Int32).toInt = 0 := rfl
                have t64 : (0 : Int32).toInt = 0 := rfl
                exact ⟨(24 - (0 : Int32).toInt).toNat + 1, l_X11_sheet_L56 w_I v0 v1 v2 v3 v4 kv0 (0 : Int32) (0 : Int32)  hQ   _ (0 : Int32) I L w_I q_I   (by omega)  (by omega)⟩
            · skip
              first | (have t65 : ¬ ((0) ≤ v2.toInt) := (not_congr (i_le (show (0 : Int32).toInt = 0 from rfl) rfl)).mp c55) | (have t65 : ¬ ((0 : Int32).toInt ≤ v2.toInt) := (not_congr (i_le rfl rfl)).mp c55) | skip
              have t66 : (-2 : Int32).toInt = -2 := rfl
              exact hQ (-2 : Int32) I L w_I q_I 
        · skip
          first | (have t67 : v1.toInt = (3) := (i_eq rfl (show (3 : Int32).toInt = 3 from rfl)).mp c42) | (have t67 : v1.toInt = (3 : Int32).toInt := (i_eq rfl rfl).mp c42) | skip
          unfold f_X11_sheet_b27
          refine ⟨fun c68 => ?_, fun c68 => ?_⟩
          · skip
            first | (have t69 : ¬ ((1) = (0)) := (not_congr (i_eq (show (1 : Int32).toInt = 1 from rfl) (show (0 : Int32).toInt = 0 from rfl))).mp c68) | (have t69 : ¬ ((1 : Int32).toInt = (0 : Int32).toInt) := (not_congr (i_eq rfl rfl)).mp c68) | skip
            unfold f_X11_sheet_b41
            refine ⟨fun c70 => ?_, fun c70 => ?_⟩
            · skip
              first | (have t71 : (1) = (0) := (i_eq (show (1 : Int32).toInt = 1 from rfl) (show (0 : Int32).toInt = 0 from rfl)).mp c70) | (have t71 : (1 : Int32).toInt = (0 : Int32).toInt := (i_eq rfl rfl).mp c70) | skip
              unfold f_X11_sheet_b51
              have t72 : (1 : Int32).toInt = 1 := rfl
              have t73 : (0 : Int32).toInt = 0 := rfl
              exact ⟨(24 - (0 : Int32).toInt).toNat + 1, l_X11_sheet_L56 w_I v0 v1 v2 v3 v4 kv0 (1 : Int32) v2  hQ   _ (0 : Int32) I L w_I q_I   (by omega)  (by omega)⟩
            · skip
              first | (have t74 : ¬ ((1) = (0)) := (not_congr (i_eq (show (1 : Int32).toInt = 1 from rfl) (show (0 : Int32).toInt = 0 from rfl))).mp c70) | (have t74 : ¬ ((1 : Int32).toInt = (0 : Int32).toInt) := (not_congr (i_eq rfl rfl)).mp c70) | skip
              unfold f_X11_sheet_b51
              have t75 : (1 : Int32).toInt = 1 := rfl
              have t76 : (0 : Int32).toInt = 0 := rfl
              have t77 : (0 : Int32).toInt = 0 := rfl
              exact ⟨(24 - (0 : Int32).toInt).toNat + 1, l_X11_sheet_L56 w_I v0 v1 v2 v3 v4 kv0 (1 : Int32) (0 : Int32)  hQ   _ (0 : Int32) I L w_I q_I   (by omega)  (by omega)⟩
          · skip
            first | (have t78 : (1) = (0) := (i_eq (show (1 : Int32).toInt = 1 from rfl) (show (0 : Int32).toInt = 0 from rfl)).mp c68) | (have t78 : (1 : Int32).toInt = (0 : Int32).toInt := (i_eq rfl rfl).mp c68) | skip
            refine ⟨fun c79 => ?_, fun c79 => ?_⟩
            · skip
              first | (have t80 : (0) ≤ v2.toInt := (i_le (show (0 : Int32).toInt = 0 from rfl) rfl).mp c79) | (have t80 : (0 : Int32).toInt ≤ v2.toInt := (i_le rfl rfl).mp c79) | skip
              unfold f_X11_sheet_b41
              refine ⟨fun c81 => ?_, fun c81 => ?_⟩
              · skip
                first | (have t82 : (1) = (0) := (i_eq (show (1 : Int32).toInt = 1 from rfl) (show (0 : Int32).toInt = 0 from rfl)).mp c81) | (have t82 : (1 : Int32).toInt = (0 : Int32).toInt := (i_eq rfl rfl).mp c81) | skip
                unfold f_X11_sheet_b51
                have t83 : (1 : Int32).toInt = 1 := rfl
                have t84 : (0 : Int32).toInt = 0 := rfl
                exact ⟨(24 - (0 : Int32).toInt).toNat + 1, l_X11_sheet_L56 w_I v0 v1 v2 v3 v4 kv0 (1 : Int32) v2  hQ   _ (0 : Int32) I L w_I q_I   (by omega)  (by omega)⟩
              · skip
                first | (have t85 : ¬ ((1) = (0)) := (not_congr (i_eq (show (1 : Int32).toInt = 1 from rfl) (show (0 : Int32).toInt = 0 from rfl))).mp c81) | (have t85 : ¬ ((1 : Int32).toInt = (0 : Int32).toInt) := (not_congr (i_eq rfl rfl)).mp c81) | skip
                unfold f_X11_sheet_b51
                have t86 : (1 : Int32).toInt = 1 := rfl
                have t87 : (0 : Int32).toInt = 0 := rfl
                have t88 : (0 : Int32).toInt = 0 := rfl
                exact ⟨(24 - (0 : Int32).toInt).toNat + 1, l_X11_sheet_L56 w_I v0 v1 v2 v3 v4 kv0 (1 : Int32) (0 : Int32)  hQ   _ (0 : Int32) I L w_I q_I   (by omega)  (by omega)⟩
            · skip
              first | (have t89 : ¬ ((0) ≤ v2.toInt) := (not_congr (i_le (show (0 : Int32).toInt = 0 from rfl) rfl)).mp c79) | (have t89 : ¬ ((0 : Int32).toInt ≤ v2.toInt) := (not_congr (i_le rfl rfl)).mp c79) | skip
              have t90 : (-2 : Int32).toInt = -2 := rfl
              exact hQ (-2 : Int32) I L w_I q_I 
      · skip
        first | (have t91 : ¬ (v2.toInt ≤ (24)) := (not_congr (i_le rfl (show (24 : Int32).toInt = 24 from rfl))).mp c40) | (have t91 : ¬ (v2.toInt ≤ (24 : Int32).toInt) := (not_congr (i_le rfl rfl)).mp c40) | skip
        have t92 : (-1 : Int32).toInt = -1 := rfl
        exact hQ (-1 : Int32) I L w_I q_I 
def Ws_X11_feud : List (Nat × Nat) := [(8, 5)]
set_option maxHeartbeats 4000000 in
set_option maxRecDepth 100000 in
theorem s_X11_feud {Z : jZ} {I : jI} {L : jL} (w_I : WD Z I) (v0 : Nat) (v1 : Int32) (v2 : Int32) (v3 : Int32) (kv0 : jk Z v0 11) {Q : Int32 → jI → jL → Prop} (hQ : ∀ (r : Int32) (I' : jI) (L' : jL), WD Z I' → FR Ws_X11_feud Z I Z I' → ((r.toInt = 1 ∧ 0 ≤ v1.toInt ∧ v1.toInt ≤ 7 ∧ 0 ≤ v2.toInt ∧ v2.toInt ≤ 7 ∧ ¬ v1.toInt = v2.toInt) ∨ (r.toInt = 0 ∧ ¬ (0 ≤ v1.toInt ∧ v1.toInt ≤ 7 ∧ 0 ≤ v2.toInt ∧ v2.toInt ≤ 7 ∧ ¬ v1.toInt = v2.toInt))) → Q r I' L') : f_X11_feud v0 v1 v2 v3 Z I L Q := by
  unfold f_X11_feud
  have q_I : FR Ws_X11_feud Z I Z I := FR.rf
  have rv1 := i_rng v1
  have rv2 := i_rng v2
  have rv3 := i_rng v3
  refine s_X11_isFamily w_I v1    (fun r1 p2 => ?_)
  have rr1 := i_rng r1
  refine ⟨fun c3 => ?_, fun c3 => ?_⟩
  · skip
    first | (have t4 : r1.toInt = (0) := (i_eq rfl (show (0 : Int32).toInt = 0 from rfl)).mp c3) | (have t4 : r1.toInt = (0 : Int32).toInt := (i_eq rfl rfl).mp c3) | skip
    have t5 : (0 : Int32).toInt = 0 := rfl
    exact hQ (0 : Int32) I L w_I q_I (by omega)
  · skip
    first | (have t6 : ¬ (r1.toInt = (0)) := (not_congr (i_eq rfl (show (0 : Int32).toInt = 0 from rfl))).mp c3) | (have t6 : ¬ (r1.toInt = (0 : Int32).toInt) := (not_congr (i_eq rfl rfl)).mp c3) | skip
    refine s_X11_isFamily w_I v2    (fun r7 p8 => ?_)
    have rr7 := i_rng r7
    refine ⟨fun c9 => ?_, fun c9 => ?_⟩
    · skip
      first | (have t10 : r7.toInt = (0) := (i_eq rfl (show (0 : Int32).toInt = 0 from rfl)).mp c9) | (have t10 : r7.toInt = (0 : Int32).toInt := (i_eq rfl rfl).mp c9) | skip
      have t11 : (0 : Int32).toInt = 0 := rfl
      exact hQ (0 : Int32) I L w_I q_I (by omega)
    · skip
      first | (have t12 : ¬ (r7.toInt = (0)) := (not_congr (i_eq rfl (show (0 : Int32).toInt = 0 from rfl))).mp c9) | (have t12 : ¬ (r7.toInt = (0 : Int32).toInt) := (not_congr (i_eq rfl rfl)).mp c9) | skip
      refine ⟨fun c13 => ?_, fun c13 => ?_⟩
      · skip
        first | (have t14 : ¬ (v1.toInt = v2.toInt) := (not_congr (i_eq rfl rfl)).mp c13) | (have t14 : ¬ (v1.toInt = v2.toInt) := (not_congr (i_eq rfl rfl)).mp c13) | skip
        intro b15 eb15
        obtain ⟨x16, ex16, kb15⟩ := sh_o w_I.1 kv0 (j := 2) (k := 8) rfl
        cases eb15.symm.trans ex16
        refine s_X8_quarrel w_I b15 v1 v2 v3 kb15   (fun  I17 L18 w_I17 f_I17  => ?_)
        have q_I17 : FR Ws_X11_feud Z I Z I17 := q_I.trans w_I.1 w_I.2.1 (f_I17.mono (by decide))
        have t19 : (1 : Int32).toInt = 1 := rfl
        exact hQ (1 : Int32) I17 L18 w_I17 q_I17 (by omega)
      · skip
        first | (have t20 : v1.toInt = v2.toInt := (i_eq rfl rfl).mp c13) | (have t20 : v1.toInt = v2.toInt := (i_eq rfl rfl).mp c13) | skip
        have t21 : (0 : Int32).toInt = 0 := rfl
        exact hQ (0 : Int32) I L w_I q_I (by omega)
def Ws_X11_wears : List (Nat × Nat) := [(8, 1)]
set_option maxHeartbeats 4000000 in
set_option maxRecDepth 100000 in
theorem l_X11_wears_L16 {Z : jZ} {I0 : jI} {Q : Int32 → jI → jL → Prop} (w0 : WD Z I0) (v0 : Nat) (v1 : Int32) (kv0 : jk Z v0 11) (hQ : ∀ (r : Int32) (I' : jI) (L' : jL), WD Z I' → FR Ws_X11_wears Z I0 Z I' → Q r I' L') : ∀ (n : Nat) (v2 : Int32) (v3 : Int32) (I : jI) (L : jL), WD Z I → FR Ws_X11_wears Z I0 Z I →   (0 ≤ v3.toInt ∧ v3.toInt ≤ 24) → 24 - v3.toInt < (n : Int) → f_X11_wears_L16  Z Q n v0 v1 v2 v3 I L := by
  intro n
  induction n with
  | zero =>
    intro v2 v3 I L w_I q_I   li  me
    exfalso
    omega
  | succ n ih =>
    intro v2 v3 I L w_I q_I   li  me
    unfold f_X11_wears_L16
    have rv2 := i_rng v2
    have rv3 := i_rng v3
    have rv1 := i_rng v1
    intro b1 eb1
    obtain ⟨x2, ex2, kb1⟩ := sh_o w_I.1 kv0 (j := 2) (k := 8) rfl
    cases eb1.symm.trans ex2
    have t4 : 0 ≤ (I b1 9).toInt ∧ (I b1 9).toInt ≤ 24 := w_I.fld 8 9 kb1 (by decide)
    refine ⟨fun c5 => ?_, fun c5 => ?_⟩
    · skip
      first | (have t6 : (I b1 9).toInt ≤ v3.toInt := (i_le rfl rfl).mp c5) | (have t6 : (I b1 9).toInt ≤ v3.toInt := (i_le rfl rfl).mp c5) | skip
      exact hQ v2 I L w_I q_I 
    · skip
      first | (have t7 : ¬ ((I b1 9).toInt ≤ v3.toInt) := (not_congr (i_le rfl rfl)).mp c5) | (have t7 : ¬ ((I b1 9).toInt ≤ v3.toInt) := (not_congr (i_le rfl rfl)).mp c5) | skip
      intro b8 eb8
      obtain rfl : b1 = b8 := Option.some.inj (eb1.symm.trans eb8)
      intro b9 eb9
      obtain ⟨x10, ex10, kb9, lb9⟩ := sh_f w_I.1 kb1 (j := 1) (k := 14) (m := 24) rfl
      cases eb9.symm.trans ex10
      intro b11 eb11
      obtain rfl : b1 = b11 := Option.some.inj (eb1.symm.trans eb11)
      intro b12 eb12
      obtain rfl : b9 = b12 := Option.some.inj (eb9.symm.trans eb12)
      have o13 : vp_in v3 24 := vi_of rfl (by omega) (by omega)
      refine ⟨o13, ?_⟩
      have o14 : vp_in v3 24 := vi_of rfl (by omega) (by omega)
      refine ⟨o14, ?_⟩
      intro I15 eI15
      try (have t16 : (if (0 : Int32) < ((I b9 v3.toNatClampNeg) - v1) then ((I b9 v3.toNatClampNeg) - v1) else (0 : Int32)).toInt = (max (0) ((I b9 v3.toNatClampNeg).toInt - v1.toInt)) := (i_max (show (0 : Int32).toInt = 0 from rfl) (i_sub rfl rfl (by omega) (by omega))))
      have w_I15 : WD Z I15 := by rw [eI15]; exact WD_putA w_I 8 1 kb1 eb9 kb9 rfl rfl (by decide) trivial
      have f_I15 : FR [(8, 1)] Z I Z I15 := by rw [eI15]; exact FR_upA w_I.2.1 kb1 eb9 kb9 rfl rfl List.mem_cons_self
      have q_I15 : FR Ws_X11_wears Z I0 Z I15 := q_I.trans w0.1 w0.2.1 (f_I15.mono (by decide))
      have u17 : (I15 b1 9).toInt = (I b1 9).toInt := by rw [f_I15.2.2.1 b1 8 9 kb1 (by decide) (by decide)]
      intro b18 eb18
      obtain rfl : b1 = b18 := Option.some.inj (eb1.symm.trans eb18)
      intro b19 eb19
      obtain rfl : b9 = b19 := Option.some.inj (eb9.symm.trans eb19)
      have o20 : vp_in v3 24 := vi_of rfl (by omega) (by omega)
      refine ⟨o20, ?_⟩
      intro x21 ex21
      have rx21 := i_rng x21
      first | (have tx21 : x21.toInt = (v2.toInt + (I15 b9 v3.toNatClampNeg).toInt) := by (rw [ex21]; exact (i_add rfl rfl (by omega) (by omega)))) | (have tx21 : x21.toInt = (v2 + (I15 b9 v3.toNatClampNeg)).toInt := by rw [ex21])
      intro x22 ex22
      have rx22 := i_rng x22
      first | (have tx22 : x22.toInt = v3.toInt + (1) := by (rw [ex22]; exact (i_add rfl (show (1 : Int32).toInt = 1 from rfl) (by omega) (by omega)))) | skip
      exact ih x21 x22 I15 L w_I15 q_I15   (by omega)  (by omega)
set_option maxHeartbeats 4000000 in
set_option maxRecDepth 100000 in
theorem s_X11_wears {Z : jZ} {I : jI} {L : jL} (w_I : WD Z I) (v0 : Nat) (v1 : Int32) (kv0 : jk Z v0 11) {Q : Int32 → jI → jL → Prop} (hQ : ∀ (r : Int32) (I' : jI) (L' : jL), WD Z I' → FR Ws_X11_wears Z I Z I' → Q r I' L') : f_X11_wears v0 v1 Z I L Q := by
  unfold f_X11_wears
  have q_I : FR Ws_X11_wears Z I Z I := FR.rf
  have rv1 := i_rng v1
  refine ⟨fun c23 => ?_, fun c23 => ?_⟩
  · skip
    first | (have t24 : v1.toInt < (0) := (i_lt rfl (show (0 : Int32).toInt = 0 from rfl)).mp c23) | (have t24 : v1.toInt < (0 : Int32).toInt := (i_lt rfl rfl).mp c23) | skip
    have t25 : (-1 : Int32).toInt = -1 := rfl
    exact hQ (-1 : Int32) I L w_I q_I 
  · skip
    first | (have t26 : ¬ (v1.toInt < (0)) := (not_congr (i_lt rfl (show (0 : Int32).toInt = 0 from rfl))).mp c23) | (have t26 : ¬ (v1.toInt < (0 : Int32).toInt) := (not_congr (i_lt rfl rfl)).mp c23) | skip
    refine ⟨fun c27 => ?_, fun c27 => ?_⟩
    · skip
      first | (have t28 : v1.toInt ≤ (9) := (i_le rfl (show (9 : Int32).toInt = 9 from rfl)).mp c27) | (have t28 : v1.toInt ≤ (9 : Int32).toInt := (i_le rfl rfl).mp c27) | skip
      have t29 : (0 : Int32).toInt = 0 := rfl
      have t30 : (0 : Int32).toInt = 0 := rfl
      exact ⟨(24 - (0 : Int32).toInt).toNat + 1, l_X11_wears_L16 w_I v0 v1 kv0   hQ   _ (0 : Int32) (0 : Int32) I L w_I q_I   (by omega)  (by omega)⟩
    · skip
      first | (have t31 : ¬ (v1.toInt ≤ (9)) := (not_congr (i_le rfl (show (9 : Int32).toInt = 9 from rfl))).mp c27) | (have t31 : ¬ (v1.toInt ≤ (9 : Int32).toInt) := (not_congr (i_le rfl rfl)).mp c27) | skip
      have t32 : (-1 : Int32).toInt = -1 := rfl
      exact hQ (-1 : Int32) I L w_I q_I 
def Ws_X11_vow : List (Nat × Nat) := [(5, 4)]
set_option maxHeartbeats 4000000 in
set_option maxRecDepth 100000 in
theorem s_X11_vow {Z : jZ} {I : jI} {L : jL} (w_I : WD Z I) (v0 : Nat) (v1 : Int32) (v2 : Int32) (kv0 : jk Z v0 11) {Q : Int32 → jI → jL → Prop} (hQ : ∀ (r : Int32) (I' : jI) (L' : jL), WD Z I' → FR Ws_X11_vow Z I Z I' → Q r I' L') : f_X11_vow v0 v1 v2 Z I L Q := by
  unfold f_X11_vow
  have q_I : FR Ws_X11_vow Z I Z I := FR.rf
  have rv1 := i_rng v1
  have rv2 := i_rng v2
  refine s_X11_find w_I v0 v1 kv0   (fun r1 p2 => ?_)
  refine ⟨fun c4 => ?_, fun b3 c4 => ?_⟩
  · skip
    have t5 : (-1 : Int32).toInt = -1 := rfl
    exact hQ (-1 : Int32) I L w_I q_I 
  · skip
    have kb3 : jk Z b3 5 := by first | exact p2 b3 c4 | exact (p2 b3 c4).1 | exact (p2.1 b3 c4).1
    refine ⟨fun c6 => ?_, fun c6 => ?_⟩
    · skip
      first | (have t7 : v2.toInt < (0) := (i_lt rfl (show (0 : Int32).toInt = 0 from rfl)).mp c6) | (have t7 : v2.toInt < (0 : Int32).toInt := (i_lt rfl rfl).mp c6) | skip
      have t8 : (-1 : Int32).toInt = -1 := rfl
      exact hQ (-1 : Int32) I L w_I q_I 
    · skip
      first | (have t9 : ¬ (v2.toInt < (0)) := (not_congr (i_lt rfl (show (0 : Int32).toInt = 0 from rfl))).mp c6) | (have t9 : ¬ (v2.toInt < (0 : Int32).toInt) := (not_congr (i_lt rfl rfl)).mp c6) | skip
      refine ⟨fun c10 => ?_, fun c10 => ?_⟩
      · skip
        first | (have t11 : v2.toInt ≤ (255) := (i_le rfl (show (255 : Int32).toInt = 255 from rfl)).mp c10) | (have t11 : v2.toInt ≤ (255 : Int32).toInt := (i_le rfl rfl).mp c10) | skip
        intro x12 ex12
        have rx12 := i_rng x12
        first | (have tx12 : x12.toInt = (I b3 4).toInt := by (rw [ex12]; exact rfl)) | (have tx12 : x12.toInt = (I b3 4).toInt := by rw [ex12])
        intro I13 eI13
        have w_I13 : WD Z I13 := by rw [eI13]; exact WD_putF w_I 5 4 kb3 (by decide) (by decide) trivial
        have f_I13 : FR [(5, 4)] Z I Z I13 := by rw [eI13]; exact FR_putF kb3 (by decide) List.mem_cons_self
        have q_I13 : FR Ws_X11_vow Z I Z I13 := q_I.trans w_I.1 w_I.2.1 (f_I13.mono (by decide))
        first | (have u14 : (I13 b3 4).toInt = v2.toInt := by (rw [eI13, show jpI I b3 4 v2 b3 4 = v2 from jpI_at] <;> exact rfl)) | skip
        exact hQ x12 I13 L w_I13 q_I13 
      · skip
        first | (have t15 : ¬ (v2.toInt ≤ (255)) := (not_congr (i_le rfl (show (255 : Int32).toInt = 255 from rfl))).mp c10) | (have t15 : ¬ (v2.toInt ≤ (255 : Int32).toInt) := (not_congr (i_le rfl rfl)).mp c10) | skip
        have t16 : (-1 : Int32).toInt = -1 := rfl
        exact hQ (-1 : Int32) I L w_I q_I 
set_option maxHeartbeats 4000000 in
set_option maxRecDepth 100000 in
theorem s_X11_of {Z : jZ} {I : jI} {L : jL} (w_I : WD Z I) (v0 : Nat) (v1 : Int32) (v2 : Int32) (kv0 : jk Z v0 11) {Q : Int32 → jI → jL → Prop} (hQ : ∀ (r : Int32), Q r I L) {QX : jI → jL → Prop} (hQX : QX I L) : f_X11_of v0 v1 v2 Z I L Q QX := by
  unfold f_X11_of
  have rv1 := i_rng v1
  have rv2 := i_rng v2
  refine s_X11_find w_I v0 v1 kv0   (fun r1 p2 => ?_)
  refine ⟨fun c4 => ?_, fun b3 c4 => ?_⟩
  · skip
    exact hQX
  · skip
    have kb3 : jk Z b3 5 := by first | exact p2 b3 c4 | exact (p2 b3 c4).1 | exact (p2.1 b3 c4).1
    refine ⟨fun c5 => ?_, fun c5 => ?_⟩
    · skip
      first | (have t6 : v2.toInt = (0) := (i_eq rfl (show (0 : Int32).toInt = 0 from rfl)).mp c5) | (have t6 : v2.toInt = (0 : Int32).toInt := (i_eq rfl rfl).mp c5) | skip
      have t8 : -1 ≤ (I b3 5).toInt ∧ (I b3 5).toInt ≤ 23 := w_I.fld 5 5 kb3 (by decide)
      exact hQ (I b3 5) 
    · skip
      first | (have t9 : ¬ (v2.toInt = (0)) := (not_congr (i_eq rfl (show (0 : Int32).toInt = 0 from rfl))).mp c5) | (have t9 : ¬ (v2.toInt = (0 : Int32).toInt) := (not_congr (i_eq rfl rfl)).mp c5) | skip
      refine ⟨fun c10 => ?_, fun c10 => ?_⟩
      · skip
        first | (have t11 : v2.toInt = (1) := (i_eq rfl (show (1 : Int32).toInt = 1 from rfl)).mp c10) | (have t11 : v2.toInt = (1 : Int32).toInt := (i_eq rfl rfl).mp c10) | skip
        exact hQ (I b3 6) 
      · skip
        first | (have t12 : ¬ (v2.toInt = (1)) := (not_congr (i_eq rfl (show (1 : Int32).toInt = 1 from rfl))).mp c10) | (have t12 : ¬ (v2.toInt = (1 : Int32).toInt) := (not_congr (i_eq rfl rfl)).mp c10) | skip
        refine ⟨fun c13 => ?_, fun c13 => ?_⟩
        · skip
          first | (have t14 : v2.toInt = (2) := (i_eq rfl (show (2 : Int32).toInt = 2 from rfl)).mp c13) | (have t14 : v2.toInt = (2 : Int32).toInt := (i_eq rfl rfl).mp c13) | skip
          exact hQ (I b3 7) 
        · skip
          first | (have t15 : ¬ (v2.toInt = (2)) := (not_congr (i_eq rfl (show (2 : Int32).toInt = 2 from rfl))).mp c13) | (have t15 : ¬ (v2.toInt = (2 : Int32).toInt) := (not_congr (i_eq rfl rfl)).mp c13) | skip
          refine ⟨fun c16 => ?_, fun c16 => ?_⟩
          · skip
            first | (have t17 : v2.toInt = (3) := (i_eq rfl (show (3 : Int32).toInt = 3 from rfl)).mp c16) | (have t17 : v2.toInt = (3 : Int32).toInt := (i_eq rfl rfl).mp c16) | skip
            have t19 : 0 ≤ (I b3 2).toInt ∧ (I b3 2).toInt ≤ 3 := w_I.fld 5 2 kb3 (by decide)
            exact hQ (I b3 2) 
          · skip
            first | (have t20 : ¬ (v2.toInt = (3)) := (not_congr (i_eq rfl (show (3 : Int32).toInt = 3 from rfl))).mp c16) | (have t20 : ¬ (v2.toInt = (3 : Int32).toInt) := (not_congr (i_eq rfl rfl)).mp c16) | skip
            refine ⟨fun c21 => ?_, fun c21 => ?_⟩
            · skip
              first | (have t22 : v2.toInt = (4) := (i_eq rfl (show (4 : Int32).toInt = 4 from rfl)).mp c21) | (have t22 : v2.toInt = (4 : Int32).toInt := (i_eq rfl rfl).mp c21) | skip
              exact hQ (I b3 3) 
            · skip
              first | (have t23 : ¬ (v2.toInt = (4)) := (not_congr (i_eq rfl (show (4 : Int32).toInt = 4 from rfl))).mp c21) | (have t23 : ¬ (v2.toInt = (4 : Int32).toInt) := (not_congr (i_eq rfl rfl)).mp c21) | skip
              refine ⟨fun c24 => ?_, fun c24 => ?_⟩
              · skip
                first | (have t25 : v2.toInt = (5) := (i_eq rfl (show (5 : Int32).toInt = 5 from rfl)).mp c24) | (have t25 : v2.toInt = (5 : Int32).toInt := (i_eq rfl rfl).mp c24) | skip
                exact hQ (I b3 4) 
              · skip
                first | (have t26 : ¬ (v2.toInt = (5)) := (not_congr (i_eq rfl (show (5 : Int32).toInt = 5 from rfl))).mp c24) | (have t26 : ¬ (v2.toInt = (5 : Int32).toInt) := (not_congr (i_eq rfl rfl)).mp c24) | skip
                refine ⟨fun c27 => ?_, fun c27 => ?_⟩
                · skip
                  first | (have t28 : v2.toInt = (6) := (i_eq rfl (show (6 : Int32).toInt = 6 from rfl)).mp c27) | (have t28 : v2.toInt = (6 : Int32).toInt := (i_eq rfl rfl).mp c27) | skip
                  exact hQ (I b3 0) 
                · skip
                  first | (have t29 : ¬ (v2.toInt = (6)) := (not_congr (i_eq rfl (show (6 : Int32).toInt = 6 from rfl))).mp c27) | (have t29 : ¬ (v2.toInt = (6 : Int32).toInt) := (not_congr (i_eq rfl rfl)).mp c27) | skip
                  refine ⟨fun c30 => ?_, fun c30 => ?_⟩
                  · skip
                    first | (have t31 : v2.toInt = (7) := (i_eq rfl (show (7 : Int32).toInt = 7 from rfl)).mp c30) | (have t31 : v2.toInt = (7 : Int32).toInt := (i_eq rfl rfl).mp c30) | skip
                    exact hQ (I b3 1) 
                  · skip
                    first | (have t32 : ¬ (v2.toInt = (7)) := (not_congr (i_eq rfl (show (7 : Int32).toInt = 7 from rfl))).mp c30) | (have t32 : ¬ (v2.toInt = (7 : Int32).toInt) := (not_congr (i_eq rfl rfl)).mp c30) | skip
                    exact hQX
def Ws_X11_tellNothing : List (Nat × Nat) := [(11, 16)]
set_option maxHeartbeats 4000000 in
set_option maxRecDepth 100000 in
theorem s_X11_tellNothing {Z : jZ} {I : jI} {L : jL} (w_I : WD Z I) (v0 : Nat) (kv0 : jk Z v0 11) {Q : jI → jL → Prop} (hQ : ∀  (I' : jI) (L' : jL), WD Z I' → FR Ws_X11_tellNothing Z I Z I' → Q I' L') : f_X11_tellNothing v0 Z I L Q := by
  unfold f_X11_tellNothing
  have q_I : FR Ws_X11_tellNothing Z I Z I := FR.rf
  intro I1 eI1
  have t2 : (0 : Int32).toInt = 0 := rfl
  have w_I1 : WD Z I1 := by rw [eI1]; exact WD_putF w_I 11 16 kv0 (by decide) (by decide) (by constructor <;> omega)
  have f_I1 : FR [(11, 16)] Z I Z I1 := by rw [eI1]; exact FR_putF kv0 (by decide) List.mem_cons_self
  have q_I1 : FR Ws_X11_tellNothing Z I Z I1 := q_I.trans w_I.1 w_I.2.1 (f_I1.mono (by decide))
  first | (have u3 : (I1 v0 16).toInt = (0) := by (rw [eI1, show jpI I v0 16 (0 : Int32) v0 16 = (0 : Int32) from jpI_at] <;> exact (show (0 : Int32).toInt = 0 from rfl))) | skip
  exact hQ  I1 L w_I1 q_I1 
def Ws_X11_tellMore : List (Nat × Nat) := [(11, 16)]
set_option maxHeartbeats 4000000 in
set_option maxRecDepth 100000 in
theorem s_X11_tellMore {Z : jZ} {I : jI} {L : jL} (w_I : WD Z I) (v0 : Nat) (v1 : Int64) (kv0 : jk Z v0 11) {Q : jI → jL → Prop} (hQ : ∀  (I' : jI) (L' : jL), WD Z I' → FR Ws_X11_tellMore Z I Z I' → Q I' L') : f_X11_tellMore v0 v1 Z I L Q := by
  unfold f_X11_tellMore
  have q_I : FR Ws_X11_tellMore Z I Z I := FR.rf
  have t2 : 0 ≤ (I v0 16).toInt ∧ (I v0 16).toInt ≤ 26 := w_I.fld 11 16 kv0 (by decide)
  intro b3 eb3
  obtain ⟨x4, ex4, kb3, lb3⟩ := sh_f w_I.1 kv0 (j := 15) (k := 15) (m := 26) rfl
  cases eb3.symm.trans ex4
  refine ⟨fun c5 => ?_, fun c5 => ?_⟩
  · skip
    first | (have t6 : (26) ≤ (I v0 16).toInt := (i_le (show (26 : Int32).toInt = 26 from rfl) rfl).mp c5) | (have t6 : (26 : Int32).toInt ≤ (I v0 16).toInt := (i_le rfl rfl).mp c5) | skip
    exact hQ  I L w_I q_I 
  · skip
    first | (have t7 : ¬ ((26) ≤ (I v0 16).toInt) := (not_congr (i_le (show (26 : Int32).toInt = 26 from rfl) rfl)).mp c5) | (have t7 : ¬ ((26 : Int32).toInt ≤ (I v0 16).toInt) := (not_congr (i_le rfl rfl)).mp c5) | skip
    intro b8 eb8
    obtain rfl : b3 = b8 := Option.some.inj (eb3.symm.trans eb8)
    have t10 : 0 ≤ (I v0 16).toInt ∧ (I v0 16).toInt ≤ 26 := w_I.fld 11 16 kv0 (by decide)
    have o11 : vp_in (I v0 16) 26 := vi_of rfl (by omega) (by omega)
    refine ⟨o11, ?_⟩
    intro L12 eL12
    have t14 : 0 ≤ (I v0 16).toInt ∧ (I v0 16).toInt ≤ 26 := w_I.fld 11 16 kv0 (by decide)
    intro I15 eI15
    try (have t16 : ((I v0 16) + (1 : Int32)).toInt = ((I v0 16).toInt + (1)) := (i_add rfl (show (1 : Int32).toInt = 1 from rfl) (by omega) (by omega)))
    have w_I15 : WD Z I15 := by rw [eI15]; exact WD_putF w_I 11 16 kv0 (by decide) (by decide) (by constructor <;> omega)
    have f_I15 : FR [(11, 16)] Z I Z I15 := by rw [eI15]; exact FR_putF kv0 (by decide) List.mem_cons_self
    have q_I15 : FR Ws_X11_tellMore Z I Z I15 := q_I.trans w_I.1 w_I.2.1 (f_I15.mono (by decide))
    first | (have u17 : (I15 v0 16).toInt = ((I v0 16).toInt + (1)) := by (rw [eI15, show jpI I v0 16 ((I v0 16) + (1 : Int32)) v0 16 = ((I v0 16) + (1 : Int32)) from jpI_at] <;> exact (i_add rfl (show (1 : Int32).toInt = 1 from rfl) (by omega) (by omega)))) | skip
    exact hQ  I15 L12 w_I15 q_I15 
def Ws_X11_tellOne : List (Nat × Nat) := [(11, 16)]
set_option maxHeartbeats 4000000 in
set_option maxRecDepth 100000 in
theorem s_X11_tellOne {Z : jZ} {I : jI} {L : jL} (w_I : WD Z I) (v0 : Nat) (v1 : Int64) (kv0 : jk Z v0 11) {Q : jI → jL → Prop} (hQ : ∀  (I' : jI) (L' : jL), WD Z I' → FR Ws_X11_tellOne Z I Z I' → Q I' L') : f_X11_tellOne v0 v1 Z I L Q := by
  unfold f_X11_tellOne
  have q_I : FR Ws_X11_tellOne Z I Z I := FR.rf
  refine s_X11_tellNothing w_I v0 kv0   (fun  I1 L2 w_I1 f_I1  => ?_)
  have q_I1 : FR Ws_X11_tellOne Z I Z I1 := q_I.trans w_I.1 w_I.2.1 (f_I1.mono (by decide))
  refine s_X11_tellMore w_I1 v0 v1 kv0   (fun  I3 L4 w_I3 f_I3  => ?_)
  have q_I3 : FR Ws_X11_tellOne Z I Z I3 := q_I1.trans w_I.1 w_I.2.1 (f_I3.mono (by decide))
  exact hQ  I3 L4 w_I3 q_I3 
def Ws_X11_tellTwo : List (Nat × Nat) := [(11, 16)]
set_option maxHeartbeats 4000000 in
set_option maxRecDepth 100000 in
theorem s_X11_tellTwo {Z : jZ} {I : jI} {L : jL} (w_I : WD Z I) (v0 : Nat) (v1 : Int64) (v3 : Int64) (kv0 : jk Z v0 11) {Q : jI → jL → Prop} (hQ : ∀  (I' : jI) (L' : jL), WD Z I' → FR Ws_X11_tellTwo Z I Z I' → Q I' L') : f_X11_tellTwo v0 v1 v3 Z I L Q := by
  unfold f_X11_tellTwo
  have q_I : FR Ws_X11_tellTwo Z I Z I := FR.rf
  refine s_X11_tellOne w_I v0 v1 kv0   (fun  I1 L2 w_I1 f_I1  => ?_)
  have q_I1 : FR Ws_X11_tellTwo Z I Z I1 := q_I.trans w_I.1 w_I.2.1 (f_I1.mono (by decide))
  refine s_X11_tellMore w_I1 v0 v3 kv0   (fun  I3 L4 w_I3 f_I3  => ?_)
  have q_I3 : FR Ws_X11_tellTwo Z I Z I3 := q_I1.trans w_I.1 w_I.2.1 (f_I3.mono (by decide))
  exact hQ  I3 L4 w_I3 q_I3 
def Ws_X11_costs : List (Nat × Nat) := [(3, 2), (8, 8), (11, 16)]
set_option maxHeartbeats 4000000 in
set_option maxRecDepth 100000 in
theorem s_X11_costs {Z : jZ} {I : jI} {L : jL} (w_I : WD Z I) (v0 : Nat) (v1 : Int32) (v2 : Int32) (kv0 : jk Z v0 11) {Q : Int32 → jI → jL → Prop} (hQ : ∀ (r : Int32) (I' : jI) (L' : jL), WD Z I' → FR Ws_X11_costs Z I Z I' → Q r I' L') : f_X11_costs v0 v1 v2 Z I L Q := by
  unfold f_X11_costs
  have q_I : FR Ws_X11_costs Z I Z I := FR.rf
  have rv1 := i_rng v1
  have rv2 := i_rng v2
  refine s_X11_find w_I v0 v1 kv0   (fun r1 p2 => ?_)
  refine ⟨fun c4 => ?_, fun b3 c4 => ?_⟩
  · skip
    have t5 : (-1 : Int32).toInt = -1 := rfl
    exact hQ (-1 : Int32) I L w_I q_I 
  · skip
    have kb3 : jk Z b3 5 := by first | exact p2 b3 c4 | exact (p2 b3 c4).1 | exact (p2.1 b3 c4).1
    intro b6 eb6
    obtain ⟨x7, ex7, kb6⟩ := sh_o w_I.1 kv0 (j := 2) (k := 8) rfl
    cases eb6.symm.trans ex7
    refine s_X8_has w_I b6 v2 kb6   (fun r8 p9 => ?_)
    have rr8 := i_rng r8
    refine ⟨fun c10 => ?_, fun c10 => ?_⟩
    · skip
      first | (have t11 : ¬ (r8.toInt = (0)) := (not_congr (i_eq rfl (show (0 : Int32).toInt = 0 from rfl))).mp c10) | (have t11 : ¬ (r8.toInt = (0 : Int32).toInt) := (not_congr (i_eq rfl rfl)).mp c10) | skip
      refine s_X5_comesTo w_I b3 v2 kb3  (by omega) (fun r12 p13 => ?_)
      have rr12 := i_rng r12
      refine ⟨fun c14 => ?_, fun c14 => ?_⟩
      · skip
        first | (have t15 : ¬ (r12.toInt = (0)) := (not_congr (i_eq rfl (show (0 : Int32).toInt = 0 from rfl))).mp c14) | (have t15 : ¬ (r12.toInt = (0 : Int32).toInt) := (not_congr (i_eq rfl rfl)).mp c14) | skip
        intro b16 eb16
        obtain rfl : b6 = b16 := Option.some.inj (eb6.symm.trans eb16)
        have t18 : -1 ≤ (I b3 5).toInt ∧ (I b3 5).toInt ≤ 23 := w_I.fld 5 5 kb3 (by decide)
        refine s_X8_effortOfMove w_I b6 (I b3 5) v2 (I b3 3) kb6  (by omega) (fun r19  => ?_)
        have rr19 := i_rng r19
        have t21 : -1 ≤ (I b3 5).toInt ∧ (I b3 5).toInt ≤ 23 := w_I.fld 5 5 kb3 (by decide)
        refine s_X11_tellTwo w_I v0 (r19.toInt64) (((v2 - (I b3 5)) - (1 : Int32)).toInt64) kv0   (fun  I22 L23 w_I22 f_I22  => ?_)
        have q_I22 : FR Ws_X11_costs Z I Z I22 := q_I.trans w_I.1 w_I.2.1 (f_I22.mono (by decide))
        have u24 : (I22 b3 5).toInt = (I b3 5).toInt := by rw [f_I22.2.2.1 b3 5 5 kb3 (by decide) (by decide)]
        have u25 : (I22 b3 3).toInt = (I b3 3).toInt := by rw [f_I22.2.2.1 b3 5 3 kb3 (by decide) (by decide)]
        intro b26 eb26
        obtain rfl : b6 = b26 := Option.some.inj (eb6.symm.trans eb26)
        have t28 : -1 ≤ (I22 b3 5).toInt ∧ (I22 b3 5).toInt ≤ 23 := w_I22.fld 5 5 kb3 (by decide)
        refine s_X8_costOfMove w_I22 b6 (I22 b3 5) v2 (I22 b3 3) kb6  (by omega) (fun r29 I31 L32 w_I31 f_I31 p30 => ?_)
        have q_I31 : FR Ws_X11_costs Z I Z I31 := q_I22.trans w_I.1 w_I.2.1 (f_I31.mono (by decide))
        have u33 : (I31 b3 5).toInt = (I22 b3 5).toInt := by rw [f_I31.2.2.1 b3 5 5 kb3 (by decide) (by decide)]
        have u34 : (I31 b3 3).toInt = (I22 b3 3).toInt := by rw [f_I31.2.2.1 b3 5 3 kb3 (by decide) (by decide)]
        have rr29 := i_rng r29
        exact hQ r29 I31 L32 w_I31 q_I31 
      · skip
        first | (have t35 : r12.toInt = (0) := (i_eq rfl (show (0 : Int32).toInt = 0 from rfl)).mp c14) | (have t35 : r12.toInt = (0 : Int32).toInt := (i_eq rfl rfl).mp c14) | skip
        have t36 : (-2 : Int32).toInt = -2 := rfl
        exact hQ (-2 : Int32) I L w_I q_I 
    · skip
      first | (have t37 : r8.toInt = (0) := (i_eq rfl (show (0 : Int32).toInt = 0 from rfl)).mp c10) | (have t37 : r8.toInt = (0 : Int32).toInt := (i_eq rfl rfl).mp c10) | skip
      have t38 : (-1 : Int32).toInt = -1 := rfl
      exact hQ (-1 : Int32) I L w_I q_I 
def Ws_X11_divide : List (Nat × Nat) := [(11, 6), (11, 7)]
set_option maxHeartbeats 4000000 in
set_option maxRecDepth 100000 in
theorem l_X11_divide_L92 {Z : jZ} {I0 : jI} {Q : jI → jL → Prop} (w0 : WD Z I0) (v0 : Nat) (v1 : Int32) (v2 : Int32) (kv0 : jk Z v0 11) (v3 : Int32) (v4 : Int32) (hQ : ∀  (I' : jI) (L' : jL), WD Z I' → FR Ws_X11_divide Z I0 Z I' → Q I' L') {K73 : Nat → Int32 → Int32 → jI → jL → Prop} {N73 : Int} (hK73 : ∀ (v4 : Int32) (I : jI) (L : jL), WD Z I → FR Ws_X11_divide Z I0 Z I →   (0 ≤ v4.toInt ∧ v4.toInt ≤ 8) → 8 - v4.toInt < N73 → K73 v0 v3 v4 I L) : ∀ (n : Nat) (v5 : Int32) (v6 : Int32) (I : jI) (L : jL), WD Z I → FR Ws_X11_divide Z I0 Z I →   (0 ≤ v4.toInt ∧ v4.toInt ≤ 7 ∧ 0 ≤ v5.toInt ∧ v5.toInt ≤ 7 ∧ 1 ≤ v6.toInt ∧ v6.toInt ≤ 8) → 8 - v4.toInt ≤ N73 → 8 - v6.toInt < (n : Int) → f_X11_divide_L92 K73 Z Q n v0 v3 v4 v5 v6 I L := by
  intro n
  induction n with
  | zero =>
    intro v5 v6 I L w_I q_I   li hm73 me
    exfalso
    omega
  | succ n ih =>
    intro v5 v6 I L w_I q_I   li hm73 me
    unfold f_X11_divide_L92
    have rv5 := i_rng v5
    have rv6 := i_rng v6
    have rv3 := i_rng v3
    have rv4 := i_rng v4
    have rv1 := i_rng v1
    have rv2 := i_rng v2
    refine ⟨fun c1 => ?_, fun c1 => ?_⟩
    · skip
      first | (have t2 : (8) ≤ v6.toInt := (i_le (show (8 : Int32).toInt = 8 from rfl) rfl).mp c1) | (have t2 : (8 : Int32).toInt ≤ v6.toInt := (i_le rfl rfl).mp c1) | skip
      intro b3 eb3
      obtain ⟨x4, ex4, kb3, lb3⟩ := sh_f w_I.1 kv0 (j := 6) (k := 14) (m := 8) rfl
      cases eb3.symm.trans ex4
      have o5 : vp_in v5 8 := vi_of rfl (by omega) (by omega)
      refine ⟨o5, ?_⟩
      have o6 : vp_in v5 8 := vi_of rfl (by omega) (by omega)
      refine ⟨o6, ?_⟩
      intro I7 eI7
      try (have t8 : ((I b3 v5.toNatClampNeg) + (1 : Int32)).toInt = ((I b3 v5.toNatClampNeg).toInt + (1)) := (i_add rfl (show (1 : Int32).toInt = 1 from rfl) (by omega) (by omega)))
      have w_I7 : WD Z I7 := by rw [eI7]; exact WD_putA w_I 11 6 kv0 eb3 kb3 rfl rfl (by decide) trivial
      have f_I7 : FR [(11, 6)] Z I Z I7 := by rw [eI7]; exact FR_upA w_I.2.1 kv0 eb3 kb3 rfl rfl List.mem_cons_self
      have q_I7 : FR Ws_X11_divide Z I0 Z I7 := q_I.trans w0.1 w0.2.1 (f_I7.mono (by decide))
      intro b9 eb9
      obtain ⟨x10, ex10, kb9, lb9⟩ := sh_f w_I7.1 kv0 (j := 7) (k := 14) (m := 8) rfl
      cases eb9.symm.trans ex10
      have o11 : vp_in v5 8 := vi_of rfl (by omega) (by omega)
      refine ⟨o11, ?_⟩
      intro I12 eI12
      have t13 : (-1 : Int32).toInt = -1 := rfl
      have w_I12 : WD Z I12 := by rw [eI12]; exact WD_putA w_I7 11 7 kv0 eb9 kb9 rfl rfl (by decide) trivial
      have f_I12 : FR [(11, 7)] Z I7 Z I12 := by rw [eI12]; exact FR_upA w_I7.2.1 kv0 eb9 kb9 rfl rfl List.mem_cons_self
      have q_I12 : FR Ws_X11_divide Z I0 Z I12 := q_I7.trans w0.1 w0.2.1 (f_I12.mono (by decide))
      intro x14 ex14
      have rx14 := i_rng x14
      first | (have tx14 : x14.toInt = v4.toInt + (1) := by (rw [ex14]; exact (i_add rfl (show (1 : Int32).toInt = 1 from rfl) (by omega) (by omega)))) | skip
      exact hK73 x14 I12 L w_I12 q_I12   (by omega)  (by omega)
    · skip
      first | (have t15 : ¬ ((8) ≤ v6.toInt) := (not_congr (i_le (show (8 : Int32).toInt = 8 from rfl) rfl)).mp c1) | (have t15 : ¬ ((8 : Int32).toInt ≤ v6.toInt) := (not_congr (i_le rfl rfl)).mp c1) | skip
      intro b16 eb16
      obtain ⟨x17, ex17, kb16, lb16⟩ := sh_f w_I.1 kv0 (j := 7) (k := 14) (m := 8) rfl
      cases eb16.symm.trans ex17
      have o18 : vp_in v6 8 := vi_of rfl (by omega) (by omega)
      refine ⟨o18, ?_⟩
      intro b19 eb19
      obtain rfl : b16 = b19 := Option.some.inj (eb16.symm.trans eb19)
      have o20 : vp_in v5 8 := vi_of rfl (by omega) (by omega)
      refine ⟨o20, ?_⟩
      refine ⟨fun c21 => ?_, fun c21 => ?_⟩
      · skip
        first | (have t22 : (I b16 v6.toNatClampNeg).toInt ≤ (I b16 v5.toNatClampNeg).toInt := (i_le rfl rfl).mp c21) | (have t22 : (I b16 v6.toNatClampNeg).toInt ≤ (I b16 v5.toNatClampNeg).toInt := (i_le rfl rfl).mp c21) | skip
        unfold f_X11_divide_b123
        intro x23 ex23
        have rx23 := i_rng x23
        first | (have tx23 : x23.toInt = v6.toInt + (1) := by (rw [ex23]; exact (i_add rfl (show (1 : Int32).toInt = 1 from rfl) (by omega) (by omega)))) | skip
        exact ih v5 x23 I L w_I q_I   (by omega) (by omega) (by omega)
      · skip
        first | (have t24 : ¬ ((I b16 v6.toNatClampNeg).toInt ≤ (I b16 v5.toNatClampNeg).toInt) := (not_congr (i_le rfl rfl)).mp c21) | (have t24 : ¬ ((I b16 v6.toNatClampNeg).toInt ≤ (I b16 v5.toNatClampNeg).toInt) := (not_congr (i_le rfl rfl)).mp c21) | skip
        unfold f_X11_divide_b123
        intro x25 ex25
        have rx25 := i_rng x25
        first | (have tx25 : x25.toInt = v6.toInt + (1) := by (rw [ex25]; exact (i_add rfl (show (1 : Int32).toInt = 1 from rfl) (by omega) (by omega)))) | skip
        exact ih v6 x25 I L w_I q_I   (by omega) (by omega) (by omega)
set_option maxHeartbeats 4000000 in
set_option maxRecDepth 100000 in
theorem l_X11_divide_L73 {Z : jZ} {I0 : jI} {Q : jI → jL → Prop} (w0 : WD Z I0) (v0 : Nat) (v1 : Int32) (v2 : Int32) (kv0 : jk Z v0 11) (v3 : Int32) (hQ : ∀  (I' : jI) (L' : jL), WD Z I' → FR Ws_X11_divide Z I0 Z I' → Q I' L') : ∀ (n : Nat) (v4 : Int32) (I : jI) (L : jL), WD Z I → FR Ws_X11_divide Z I0 Z I →   (0 ≤ v4.toInt ∧ v4.toInt ≤ 8) → 8 - v4.toInt < (n : Int) → f_X11_divide_L73  Z Q n v0 v3 v4 I L := by
  intro n
  induction n with
  | zero =>
    intro v4 I L w_I q_I   li  me
    exfalso
    omega
  | succ n ih =>
    intro v4 I L w_I q_I   li  me
    unfold f_X11_divide_L73
    have rv4 := i_rng v4
    have rv3 := i_rng v3
    have rv1 := i_rng v1
    have rv2 := i_rng v2
    refine ⟨fun c26 => ?_, fun c26 => ?_⟩
    · skip
      first | (have t27 : v3.toInt ≤ v4.toInt := (i_le rfl rfl).mp c26) | (have t27 : v3.toInt ≤ v4.toInt := (i_le rfl rfl).mp c26) | skip
      exact hQ  I L w_I q_I 
    · skip
      first | (have t28 : ¬ (v3.toInt ≤ v4.toInt) := (not_congr (i_le rfl rfl)).mp c26) | (have t28 : ¬ (v3.toInt ≤ v4.toInt) := (not_congr (i_le rfl rfl)).mp c26) | skip
      refine ⟨fun c29 => ?_, fun c29 => ?_⟩
      · skip
        first | (have t30 : (8) ≤ v4.toInt := (i_le (show (8 : Int32).toInt = 8 from rfl) rfl).mp c29) | (have t30 : (8 : Int32).toInt ≤ v4.toInt := (i_le rfl rfl).mp c29) | skip
        exact hQ  I L w_I q_I 
      · skip
        first | (have t31 : ¬ ((8) ≤ v4.toInt) := (not_congr (i_le (show (8 : Int32).toInt = 8 from rfl) rfl)).mp c29) | (have t31 : ¬ ((8 : Int32).toInt ≤ v4.toInt) := (not_congr (i_le rfl rfl)).mp c29) | skip
        have t32 : (0 : Int32).toInt = 0 := rfl
        have t33 : (1 : Int32).toInt = 1 := rfl
        exact ⟨(8 - (1 : Int32).toInt).toNat + 1, l_X11_divide_L92 w0 v0 v1 v2 kv0 v3 v4  hQ ih  _ (0 : Int32) (1 : Int32) I L w_I q_I   (by omega) (by omega) (by omega)⟩
set_option maxHeartbeats 4000000 in
set_option maxRecDepth 100000 in
theorem l_X11_divide_L11 {Z : jZ} {I0 : jI} {Q : jI → jL → Prop} (w0 : WD Z I0) (v0 : Nat) (v1 : Int32) (v2 : Int32) (kv0 : jk Z v0 11) (hQ : ∀  (I' : jI) (L' : jL), WD Z I' → FR Ws_X11_divide Z I0 Z I' → Q I' L') : ∀ (n : Nat) (v3 : Int32) (v4 : Int32) (I : jI) (L : jL), WD Z I → FR Ws_X11_divide Z I0 Z I →   (0 ≤ v4.toInt ∧ v4.toInt ≤ 8 ∧ 1 ≤ v2.toInt) → 8 - v4.toInt < (n : Int) → f_X11_divide_L11  Z Q n v0 v1 v2 v3 v4 I L := by
  intro n
  induction n with
  | zero =>
    intro v3 v4 I L w_I q_I   li  me
    exfalso
    omega
  | succ n ih =>
    intro v3 v4 I L w_I q_I   li  me
    unfold f_X11_divide_L11
    have rv3 := i_rng v3
    have rv4 := i_rng v4
    have rv1 := i_rng v1
    have rv2 := i_rng v2
    refine ⟨fun c34 => ?_, fun c34 => ?_⟩
    · skip
      first | (have t35 : (8) ≤ v4.toInt := (i_le (show (8 : Int32).toInt = 8 from rfl) rfl).mp c34) | (have t35 : (8 : Int32).toInt ≤ v4.toInt := (i_le rfl rfl).mp c34) | skip
      have t36 : (0 : Int32).toInt = 0 := rfl
      exact ⟨(8 - (0 : Int32).toInt).toNat + 1, l_X11_divide_L73 w0 v0 v1 v2 kv0 v3  hQ   _ (0 : Int32) I L w_I q_I   (by omega)  (by omega)⟩
    · skip
      first | (have t37 : ¬ ((8) ≤ v4.toInt) := (not_congr (i_le (show (8 : Int32).toInt = 8 from rfl) rfl)).mp c34) | (have t37 : ¬ ((8 : Int32).toInt ≤ v4.toInt) := (not_congr (i_le rfl rfl)).mp c34) | skip
      intro b38 eb38
      obtain ⟨x39, ex39, kb38, lb38⟩ := sh_f w_I.1 kv0 (j := 7) (k := 14) (m := 8) rfl
      cases eb38.symm.trans ex39
      intro b40 eb40
      obtain ⟨x41, ex41, kb40, lb40⟩ := sh_f w_I.1 kv0 (j := 6) (k := 14) (m := 8) rfl
      cases eb40.symm.trans ex41
      have o42 : vp_in v4 8 := vi_of rfl (by omega) (by omega)
      refine ⟨o42, ?_⟩
      refine ⟨(not_congr (i_eq rfl (show (0 : Int32).toInt = 0 from rfl))).mpr (by omega), ?_⟩
      have o43 : vp_in v4 8 := vi_of rfl (by omega) (by omega)
      refine ⟨o43, ?_⟩
      intro I44 eI44
      have w_I44 : WD Z I44 := by rw [eI44]; exact WD_putA w_I 11 7 kv0 eb38 kb38 rfl rfl (by decide) trivial
      have f_I44 : FR [(11, 7)] Z I Z I44 := by rw [eI44]; exact FR_upA w_I.2.1 kv0 eb38 kb38 rfl rfl List.mem_cons_self
      have q_I44 : FR Ws_X11_divide Z I0 Z I44 := q_I.trans w0.1 w0.2.1 (f_I44.mono (by decide))
      intro b45 eb45
      obtain rfl : b40 = b45 := Option.some.inj (eb40.symm.trans eb45)
      intro b46 eb46
      obtain rfl : b40 = b46 := Option.some.inj (eb40.symm.trans eb46)
      have o47 : vp_in v4 8 := vi_of rfl (by omega) (by omega)
      refine ⟨o47, ?_⟩
      refine ⟨(not_congr (i_eq rfl (show (0 : Int32).toInt = 0 from rfl))).mpr (by omega), ?_⟩
      have o48 : vp_in v4 8 := vi_of rfl (by omega) (by omega)
      refine ⟨o48, ?_⟩
      intro I49 eI49
      have w_I49 : WD Z I49 := by rw [eI49]; exact WD_putA w_I44 11 6 kv0 eb40 kb40 rfl rfl (by decide) trivial
      have f_I49 : FR [(11, 6)] Z I44 Z I49 := by rw [eI49]; exact FR_upA w_I44.2.1 kv0 eb40 kb40 rfl rfl List.mem_cons_self
      have q_I49 : FR Ws_X11_divide Z I0 Z I49 := q_I44.trans w0.1 w0.2.1 (f_I49.mono (by decide))
      intro b50 eb50
      obtain rfl : b40 = b50 := Option.some.inj (eb40.symm.trans eb50)
      have o51 : vp_in v4 8 := vi_of rfl (by omega) (by omega)
      refine ⟨o51, ?_⟩
      intro x52 ex52
      have rx52 := i_rng x52
      first | (have tx52 : x52.toInt = (v3.toInt - (I49 b40 v4.toNatClampNeg).toInt) := by (rw [ex52]; exact (i_sub rfl rfl (by omega) (by omega)))) | (have tx52 : x52.toInt = (v3 - (I49 b40 v4.toNatClampNeg)).toInt := by rw [ex52])
      intro x53 ex53
      have rx53 := i_rng x53
      first | (have tx53 : x53.toInt = v4.toInt + (1) := by (rw [ex53]; exact (i_add rfl (show (1 : Int32).toInt = 1 from rfl) (by omega) (by omega)))) | skip
      exact ih x52 x53 I49 L w_I49 q_I49   (by omega)  (by omega)
set_option maxHeartbeats 4000000 in
set_option maxRecDepth 100000 in
theorem s_X11_divide {Z : jZ} {I : jI} {L : jL} (w_I : WD Z I) (v0 : Nat) (v1 : Int32) (v2 : Int32) (kv0 : jk Z v0 11) {Q : jI → jL → Prop} (hQ : ∀  (I' : jI) (L' : jL), WD Z I' → FR Ws_X11_divide Z I Z I' → Q I' L') : f_X11_divide v0 v1 v2 Z I L Q := by
  unfold f_X11_divide
  have q_I : FR Ws_X11_divide Z I Z I := FR.rf
  have rv1 := i_rng v1
  have rv2 := i_rng v2
  refine ⟨fun c54 => ?_, fun c54 => ?_⟩
  · skip
    first | (have t55 : (1) ≤ v2.toInt := (i_le (show (1 : Int32).toInt = 1 from rfl) rfl).mp c54) | (have t55 : (1 : Int32).toInt ≤ v2.toInt := (i_le rfl rfl).mp c54) | skip
    have t56 : (0 : Int32).toInt = 0 := rfl
    exact ⟨(8 - (0 : Int32).toInt).toNat + 1, l_X11_divide_L11 w_I v0 v1 v2 kv0   hQ   _ v1 (0 : Int32) I L w_I q_I   (by omega)  (by omega)⟩
  · skip
    first | (have t57 : ¬ ((1) ≤ v2.toInt) := (not_congr (i_le (show (1 : Int32).toInt = 1 from rfl) rfl)).mp c54) | (have t57 : ¬ ((1 : Int32).toInt ≤ v2.toInt) := (not_congr (i_le rfl rfl)).mp c54) | skip
    exact hQ  I L w_I q_I 
def Ws_X11_lead : List (Nat × Nat) := [(11, 5), (11, 6), (11, 7)]
set_option maxHeartbeats 4000000 in
set_option maxRecDepth 100000 in
theorem l_X11_lead_L26 {Z : jZ} {I0 : jI} {Q : jI → jL → Prop} (w0 : WD Z I0) (v0 : Nat) (v1 : Int32) (v2 : Int32) (v3 : Int32) (kv0 : jk Z v0 11) (hQ : ∀  (I' : jI) (L' : jL), WD Z I' → FR Ws_X11_lead Z I0 Z I' → Q I' L') : ∀ (n : Nat) (v4 : Int32) (I : jI) (L : jL), WD Z I → FR Ws_X11_lead Z I0 Z I →   (0 ≤ v4.toInt ∧ v4.toInt ≤ 8) → 8 - v4.toInt < (n : Int) → f_X11_lead_L26  Z Q n v0 v3 v4 I L := by
  intro n
  induction n with
  | zero =>
    intro v4 I L w_I q_I   li  me
    exfalso
    omega
  | succ n ih =>
    intro v4 I L w_I q_I   li  me
    unfold f_X11_lead_L26
    have rv4 := i_rng v4
    have rv1 := i_rng v1
    have rv2 := i_rng v2
    have rv3 := i_rng v3
    refine ⟨fun c1 => ?_, fun c1 => ?_⟩
    · skip
      first | (have t2 : (8) ≤ v4.toInt := (i_le (show (8 : Int32).toInt = 8 from rfl) rfl).mp c1) | (have t2 : (8 : Int32).toInt ≤ v4.toInt := (i_le rfl rfl).mp c1) | skip
      exact hQ  I L w_I q_I 
    · skip
      first | (have t3 : ¬ ((8) ≤ v4.toInt) := (not_congr (i_le (show (8 : Int32).toInt = 8 from rfl) rfl)).mp c1) | (have t3 : ¬ ((8 : Int32).toInt ≤ v4.toInt) := (not_congr (i_le rfl rfl)).mp c1) | skip
      intro b4 eb4
      obtain ⟨x5, ex5, kb4, lb4⟩ := sh_f w_I.1 kv0 (j := 5) (k := 14) (m := 8) rfl
      cases eb4.symm.trans ex5
      have o6 : vp_in v4 8 := vi_of rfl (by omega) (by omega)
      refine ⟨o6, ?_⟩
      intro b7 eb7
      obtain ⟨x8, ex8, kb7, lb7⟩ := sh_f w_I.1 kv0 (j := 6) (k := 14) (m := 8) rfl
      cases eb7.symm.trans ex8
      have o9 : vp_in v4 8 := vi_of rfl (by omega) (by omega)
      refine ⟨o9, ?_⟩
      have o10 : vp_in v4 8 := vi_of rfl (by omega) (by omega)
      refine ⟨o10, ?_⟩
      intro I11 eI11
      try (have t12 : ((I b4 v4.toNatClampNeg) + (v3 * (I b7 v4.toNatClampNeg))).toInt = ((I b4 v4.toNatClampNeg).toInt + (v3 * (I b7 v4.toNatClampNeg)).toInt) := (i_add rfl rfl (by omega) (by omega)))
      have w_I11 : WD Z I11 := by rw [eI11]; exact WD_putA w_I 11 5 kv0 eb4 kb4 rfl rfl (by decide) trivial
      have f_I11 : FR [(11, 5)] Z I Z I11 := by rw [eI11]; exact FR_upA w_I.2.1 kv0 eb4 kb4 rfl rfl List.mem_cons_self
      have q_I11 : FR Ws_X11_lead Z I0 Z I11 := q_I.trans w0.1 w0.2.1 (f_I11.mono (by decide))
      intro x13 ex13
      have rx13 := i_rng x13
      first | (have tx13 : x13.toInt = v4.toInt + (1) := by (rw [ex13]; exact (i_add rfl (show (1 : Int32).toInt = 1 from rfl) (by omega) (by omega)))) | skip
      exact ih x13 I11 L w_I11 q_I11   (by omega)  (by omega)
set_option maxHeartbeats 4000000 in
set_option maxRecDepth 100000 in
theorem s_X11_lead {Z : jZ} {I : jI} {L : jL} (w_I : WD Z I) (v0 : Nat) (v1 : Int32) (v2 : Int32) (v3 : Int32) (kv0 : jk Z v0 11) {Q : jI → jL → Prop} (hQ : ∀  (I' : jI) (L' : jL), WD Z I' → FR Ws_X11_lead Z I Z I' → Q I' L') : f_X11_lead v0 v1 v2 v3 Z I L Q := by
  unfold f_X11_lead
  have q_I : FR Ws_X11_lead Z I Z I := FR.rf
  have rv1 := i_rng v1
  have rv2 := i_rng v2
  have rv3 := i_rng v3
  intro b14 eb14
  obtain ⟨x15, ex15, kb14⟩ := sh_o w_I.1 kv0 (j := 2) (k := 8) rfl
  cases eb14.symm.trans ex15
  intro b16 eb16
  obtain ⟨x17, ex17, kb16⟩ := sh_o w_I.1 kb14 (j := 4) (k := 4) rfl
  cases eb16.symm.trans ex17
  intro b18 eb18
  obtain ⟨x19, ex19, kb18, lb18⟩ := sh_f w_I.1 kv0 (j := 6) (k := 14) (m := 8) rfl
  cases eb18.symm.trans ex19
  refine s_X4_shareInto w_I b16 v2 b18 kb16 kb18 v0 11 6 kv0 eb18 (by decide) rfl (by omega) (by intro i v; first | trivial | exact p1 i v) (fun  I20 L21 w_I20 f_I20  => ?_)
  have q_I20 : FR Ws_X11_lead Z I Z I20 := q_I.trans w_I.1 w_I.2.1 (f_I20.mono (by first | decide | (intro p hp; simp at hp ⊢; omega) | simp))
  have t22 : (720 : Int32).toInt = 720 := rfl
  refine s_X11_divide w_I20 v0 v1 (720 : Int32) kv0   (fun  I23 L24 w_I23 f_I23  => ?_)
  have q_I23 : FR Ws_X11_lead Z I Z I23 := q_I20.trans w_I.1 w_I.2.1 (f_I23.mono (by decide))
  have t25 : (0 : Int32).toInt = 0 := rfl
  exact ⟨(8 - (0 : Int32).toInt).toNat + 1, l_X11_lead_L26 w_I v0 v1 v2 v3 kv0   hQ   _ (0 : Int32) I23 L24 w_I23 q_I23   (by omega)  (by omega)⟩
def Ws_X11_payForMove : List (Nat × Nat) := [(3, 2), (8, 8), (11, 5), (11, 6), (11, 7)]
set_option maxHeartbeats 4000000 in
set_option maxRecDepth 100000 in
theorem l_X11_payForMove_L17 {Z : jZ} {I0 : jI} {Q : jI → jL → Prop} (w0 : WD Z I0) (v0 : Nat) (v1 : Nat) (v2 : Int32) (kv0 : jk Z v0 11) (kv1 : jk Z v1 5) (p0 : 0 ≤ v2.toInt ∧ v2.toInt ≤ 23) (v3 : Int32) (hQ : ∀  (I' : jI) (L' : jL), WD Z I' → FR Ws_X11_payForMove Z I0 Z I' → Q I' L') : ∀ (n : Nat) (v4 : Int32) (I : jI) (L : jL), WD Z I → FR Ws_X11_payForMove Z I0 Z I →   (0 ≤ v4.toInt ∧ v4.toInt ≤ 24) → max 0 (v2.toInt - v4.toInt) < (n : Int) → f_X11_payForMove_L17  Z Q n v0 v1 v2 v3 v4 I L := by
  intro n
  induction n with
  | zero =>
    intro v4 I L w_I q_I   li  me
    exfalso
    omega
  | succ n ih =>
    intro v4 I L w_I q_I   li  me
    unfold f_X11_payForMove_L17
    have rv4 := i_rng v4
    have rv3 := i_rng v3
    have rv2 := i_rng v2
    refine ⟨fun c1 => ?_, fun c1 => ?_⟩
    · skip
      first | (have t2 : v2.toInt ≤ v4.toInt := (i_le rfl rfl).mp c1) | (have t2 : v2.toInt ≤ v4.toInt := (i_le rfl rfl).mp c1) | skip
      intro b3 eb3
      obtain ⟨x4, ex4, kb3⟩ := sh_o w_I.1 kv0 (j := 2) (k := 8) rfl
      cases eb3.symm.trans ex4
      have t6 : -1 ≤ (I v1 5).toInt ∧ (I v1 5).toInt ≤ 23 := w_I.fld 5 5 kv1 (by decide)
      have t7 : (0 : Int32).toInt = 0 := rfl
      refine s_X8_priceOf w_I b3 (0 : Int32) v2 (I v1 5) v3 (I v1 3) kb3   (fun r8 I10 L11 w_I10 f_I10 p9 => ?_)
      have q_I10 : FR Ws_X11_payForMove Z I0 Z I10 := q_I.trans w0.1 w0.2.1 (f_I10.mono (by decide))
      have u12 : (I10 v1 5).toInt = (I v1 5).toInt := by rw [f_I10.2.2.1 v1 5 5 kv1 (by decide) (by decide)]
      have u13 : (I10 v1 3).toInt = (I v1 3).toInt := by rw [f_I10.2.2.1 v1 5 3 kv1 (by decide) (by decide)]
      have rr8 := i_rng r8
      have t14 : (1 : Int32).toInt = 1 := rfl
      refine s_X11_lead w_I10 v0 r8 v2 (1 : Int32) kv0   (fun  I15 L16 w_I15 f_I15  => ?_)
      have q_I15 : FR Ws_X11_payForMove Z I0 Z I15 := q_I10.trans w0.1 w0.2.1 (f_I15.mono (by decide))
      have u17 : (I15 v1 5).toInt = (I10 v1 5).toInt := by rw [f_I15.2.2.1 v1 5 5 kv1 (by decide) (by decide)]
      have u18 : (I15 v1 3).toInt = (I10 v1 3).toInt := by rw [f_I15.2.2.1 v1 5 3 kv1 (by decide) (by decide)]
      exact hQ  I15 L16 w_I15 q_I15 
    · skip
      first | (have t19 : ¬ (v2.toInt ≤ v4.toInt) := (not_congr (i_le rfl rfl)).mp c1) | (have t19 : ¬ (v2.toInt ≤ v4.toInt) := (not_congr (i_le rfl rfl)).mp c1) | skip
      intro b20 eb20
      obtain ⟨x21, ex21, kb20⟩ := sh_o w_I.1 kv0 (j := 2) (k := 8) rfl
      cases eb20.symm.trans ex21
      have t23 : -1 ≤ (I v1 5).toInt ∧ (I v1 5).toInt ≤ 23 := w_I.fld 5 5 kv1 (by decide)
      have t24 : (1 : Int32).toInt = 1 := rfl
      refine s_X8_priceOf w_I b20 (1 : Int32) v4 (I v1 5) v3 (I v1 3) kb20   (fun r25 I27 L28 w_I27 f_I27 p26 => ?_)
      have q_I27 : FR Ws_X11_payForMove Z I0 Z I27 := q_I.trans w0.1 w0.2.1 (f_I27.mono (by decide))
      have u29 : (I27 v1 5).toInt = (I v1 5).toInt := by rw [f_I27.2.2.1 v1 5 5 kv1 (by decide) (by decide)]
      have u30 : (I27 v1 3).toInt = (I v1 3).toInt := by rw [f_I27.2.2.1 v1 5 3 kv1 (by decide) (by decide)]
      have rr25 := i_rng r25
      have t31 : (1 : Int32).toInt = 1 := rfl
      refine s_X11_lead w_I27 v0 r25 v4 (1 : Int32) kv0   (fun  I32 L33 w_I32 f_I32  => ?_)
      have q_I32 : FR Ws_X11_payForMove Z I0 Z I32 := q_I27.trans w0.1 w0.2.1 (f_I32.mono (by decide))
      have u34 : (I32 v1 5).toInt = (I27 v1 5).toInt := by rw [f_I32.2.2.1 v1 5 5 kv1 (by decide) (by decide)]
      have u35 : (I32 v1 3).toInt = (I27 v1 3).toInt := by rw [f_I32.2.2.1 v1 5 3 kv1 (by decide) (by decide)]
      intro x36 ex36
      have rx36 := i_rng x36
      first | (have tx36 : x36.toInt = v4.toInt + (1) := by (rw [ex36]; exact (i_add rfl (show (1 : Int32).toInt = 1 from rfl) (by omega) (by omega)))) | skip
      exact ih x36 I32 L33 w_I32 q_I32   (by omega)  (by omega)
set_option maxHeartbeats 4000000 in
set_option maxRecDepth 100000 in
theorem s_X11_payForMove {Z : jZ} {I : jI} {L : jL} (w_I : WD Z I) (v0 : Nat) (v1 : Nat) (v2 : Int32) (kv0 : jk Z v0 11) (kv1 : jk Z v1 5) (p0 : 0 ≤ v2.toInt ∧ v2.toInt ≤ 23) {Q : jI → jL → Prop} (hQ : ∀  (I' : jI) (L' : jL), WD Z I' → FR Ws_X11_payForMove Z I Z I' → Q I' L') : f_X11_payForMove v0 v1 v2 Z I L Q := by
  unfold f_X11_payForMove
  have q_I : FR Ws_X11_payForMove Z I Z I := FR.rf
  have rv2 := i_rng v2
  have t38 : -1 ≤ (I v1 5).toInt ∧ (I v1 5).toInt ≤ 23 := w_I.fld 5 5 kv1 (by decide)
  intro x39 ex39
  have rx39 := i_rng x39
  first | (have tx39 : x39.toInt = ((v2.toInt - (I v1 5).toInt) - (1)) := by (rw [ex39]; exact (i_sub (i_sub rfl rfl (by omega) (by omega)) (show (1 : Int32).toInt = 1 from rfl) (by omega) (by omega)))) | (have tx39 : x39.toInt = ((v2 - (I v1 5)) - (1 : Int32)).toInt := by rw [ex39])
  have t41 : -1 ≤ (I v1 5).toInt ∧ (I v1 5).toInt ≤ 23 := w_I.fld 5 5 kv1 (by decide)
  intro x42 ex42
  have rx42 := i_rng x42
  first | (have tx42 : x42.toInt = ((I v1 5).toInt + (1)) := by (rw [ex42]; exact (i_add rfl (show (1 : Int32).toInt = 1 from rfl) (by omega) (by omega)))) | (have tx42 : x42.toInt = ((I v1 5) + (1 : Int32)).toInt := by rw [ex42])
  exact ⟨(max 0 (v2.toInt - x42.toInt)).toNat + 1, l_X11_payForMove_L17 w_I v0 v1 v2 kv0 kv1 p0 x39  hQ   _ x42 I L w_I q_I   (by omega)  (by omega)⟩
def Ws_X11_tread : List (Nat × Nat) := [(3, 2), (5, 5), (5, 6), (5, 7), (8, 8), (11, 5), (11, 6), (11, 7)]
set_option maxHeartbeats 4000000 in
set_option maxRecDepth 100000 in
theorem s_X11_tread {Z : jZ} {I : jI} {L : jL} (w_I : WD Z I) (v0 : Nat) (v1 : Int32) (v2 : Int32) (kv0 : jk Z v0 11) {Q : Int32 → jI → jL → Prop} (hQ : ∀ (r : Int32) (I' : jI) (L' : jL), WD Z I' → FR Ws_X11_tread Z I Z I' → Q r I' L') : f_X11_tread v0 v1 v2 Z I L Q := by
  unfold f_X11_tread
  have q_I : FR Ws_X11_tread Z I Z I := FR.rf
  have rv1 := i_rng v1
  have rv2 := i_rng v2
  refine s_X11_find w_I v0 v1 kv0   (fun r1 p2 => ?_)
  refine ⟨fun c4 => ?_, fun b3 c4 => ?_⟩
  · skip
    have t5 : (-1 : Int32).toInt = -1 := rfl
    exact hQ (-1 : Int32) I L w_I q_I 
  · skip
    have kb3 : jk Z b3 5 := by first | exact p2 b3 c4 | exact (p2 b3 c4).1 | exact (p2.1 b3 c4).1
    intro b6 eb6
    obtain ⟨x7, ex7, kb6⟩ := sh_o w_I.1 kv0 (j := 2) (k := 8) rfl
    cases eb6.symm.trans ex7
    refine s_X8_has w_I b6 v2 kb6   (fun r8 p9 => ?_)
    have rr8 := i_rng r8
    refine ⟨fun c10 => ?_, fun c10 => ?_⟩
    · skip
      first | (have t11 : ¬ (r8.toInt = (0)) := (not_congr (i_eq rfl (show (0 : Int32).toInt = 0 from rfl))).mp c10) | (have t11 : ¬ (r8.toInt = (0 : Int32).toInt) := (not_congr (i_eq rfl rfl)).mp c10) | skip
      refine s_X5_comesTo w_I b3 v2 kb3  (by omega) (fun r12 p13 => ?_)
      have rr12 := i_rng r12
      refine ⟨fun c14 => ?_, fun c14 => ?_⟩
      · skip
        first | (have t15 : ¬ (r12.toInt = (0)) := (not_congr (i_eq rfl (show (0 : Int32).toInt = 0 from rfl))).mp c14) | (have t15 : ¬ (r12.toInt = (0 : Int32).toInt) := (not_congr (i_eq rfl rfl)).mp c14) | skip
        intro b16 eb16
        obtain rfl : b6 = b16 := Option.some.inj (eb6.symm.trans eb16)
        intro b17 eb17
        obtain ⟨x18, ex18, kb17⟩ := sh_o w_I.1 kb6 (j := 4) (k := 4) rfl
        cases eb17.symm.trans ex18
        refine s_X4_mainOf w_I b17 v2 kb17   (fun r19 p20 => ?_)
        have rr19 := i_rng r19
        refine s_X5_vowsAgainst w_I b3 r19 kb3   (fun r21  => ?_)
        have rr21 := i_rng r21
        refine ⟨fun c22 => ?_, fun c22 => ?_⟩
        · skip
          first | (have t23 : r21.toInt = (0) := (i_eq rfl (show (0 : Int32).toInt = 0 from rfl)).mp c22) | (have t23 : r21.toInt = (0 : Int32).toInt := (i_eq rfl rfl).mp c22) | skip
          intro b24 eb24
          obtain rfl : b6 = b24 := Option.some.inj (eb6.symm.trans eb24)
          have t26 : -1 ≤ (I b3 5).toInt ∧ (I b3 5).toInt ≤ 23 := w_I.fld 5 5 kb3 (by decide)
          refine s_X8_effortOfMove w_I b6 (I b3 5) v2 (I b3 3) kb6  (by omega) (fun r27  => ?_)
          have rr27 := i_rng r27
          refine ⟨fun c28 => ?_, fun c28 => ?_⟩
          · skip
            first | (have t29 : r27.toInt ≤ (I b3 6).toInt := (i_le rfl rfl).mp c28) | (have t29 : r27.toInt ≤ (I b3 6).toInt := (i_le rfl rfl).mp c28) | skip
            intro b30 eb30
            obtain rfl : b6 = b30 := Option.some.inj (eb6.symm.trans eb30)
            have t32 : -1 ≤ (I b3 5).toInt ∧ (I b3 5).toInt ≤ 23 := w_I.fld 5 5 kb3 (by decide)
            refine s_X8_costOfMove w_I b6 (I b3 5) v2 (I b3 3) kb6  (by omega) (fun r33 I35 L36 w_I35 f_I35 p34 => ?_)
            have q_I35 : FR Ws_X11_tread Z I Z I35 := q_I.trans w_I.1 w_I.2.1 (f_I35.mono (by decide))
            have u37 : (I35 b3 5).toInt = (I b3 5).toInt := by rw [f_I35.2.2.1 b3 5 5 kb3 (by decide) (by decide)]
            have u38 : (I35 b3 3).toInt = (I b3 3).toInt := by rw [f_I35.2.2.1 b3 5 3 kb3 (by decide) (by decide)]
            have u39 : (I35 b3 6).toInt = (I b3 6).toInt := by rw [f_I35.2.2.1 b3 5 6 kb3 (by decide) (by decide)]
            have rr33 := i_rng r33
            refine ⟨fun c40 => ?_, fun c40 => ?_⟩
            · skip
              first | (have t41 : r33.toInt ≤ (I35 b3 7).toInt := (i_le rfl rfl).mp c40) | (have t41 : r33.toInt ≤ (I35 b3 7).toInt := (i_le rfl rfl).mp c40) | skip
              refine s_X11_payForMove w_I35 v0 b3 v2 kv0 kb3  (by omega) (fun  I42 L43 w_I42 f_I42  => ?_)
              have q_I42 : FR Ws_X11_tread Z I Z I42 := q_I35.trans w_I.1 w_I.2.1 (f_I42.mono (by decide))
              have u44 : (I42 b3 5).toInt = (I35 b3 5).toInt := by rw [f_I42.2.2.1 b3 5 5 kb3 (by decide) (by decide)]
              have u45 : (I42 b3 3).toInt = (I35 b3 3).toInt := by rw [f_I42.2.2.1 b3 5 3 kb3 (by decide) (by decide)]
              have u46 : (I42 b3 6).toInt = (I35 b3 6).toInt := by rw [f_I42.2.2.1 b3 5 6 kb3 (by decide) (by decide)]
              have u47 : (I42 b3 7).toInt = (I35 b3 7).toInt := by rw [f_I42.2.2.1 b3 5 7 kb3 (by decide) (by decide)]
              intro I48 eI48
              try (have t49 : ((I42 b3 6) - r27).toInt = ((I42 b3 6).toInt - r27.toInt) := (i_sub rfl rfl (by omega) (by omega)))
              have w_I48 : WD Z I48 := by rw [eI48]; exact WD_putF w_I42 5 6 kb3 (by decide) (by decide) trivial
              have f_I48 : FR [(5, 6)] Z I42 Z I48 := by rw [eI48]; exact FR_putF kb3 (by decide) List.mem_cons_self
              have q_I48 : FR Ws_X11_tread Z I Z I48 := q_I42.trans w_I.1 w_I.2.1 (f_I48.mono (by decide))
              have u50 : (I48 b3 5).toInt = (I42 b3 5).toInt := by rw [f_I48.2.2.1 b3 5 5 kb3 (by decide) (by decide)]
              have u51 : (I48 b3 3).toInt = (I42 b3 3).toInt := by rw [f_I48.2.2.1 b3 5 3 kb3 (by decide) (by decide)]
              have u52 : (I48 b3 7).toInt = (I42 b3 7).toInt := by rw [f_I48.2.2.1 b3 5 7 kb3 (by decide) (by decide)]
              first | (have u53 : (I48 b3 6).toInt = ((I42 b3 6).toInt - r27.toInt) := by (rw [eI48, show jpI I42 b3 6 ((I42 b3 6) - r27) b3 6 = ((I42 b3 6) - r27) from jpI_at] <;> exact (i_sub rfl rfl (by omega) (by omega)))) | skip
              intro I54 eI54
              try (have t55 : ((I48 b3 7) - r33).toInt = ((I48 b3 7).toInt - r33.toInt) := (i_sub rfl rfl (by omega) (by omega)))
              have w_I54 : WD Z I54 := by rw [eI54]; exact WD_putF w_I48 5 7 kb3 (by decide) (by decide) trivial
              have f_I54 : FR [(5, 7)] Z I48 Z I54 := by rw [eI54]; exact FR_putF kb3 (by decide) List.mem_cons_self
              have q_I54 : FR Ws_X11_tread Z I Z I54 := q_I48.trans w_I.1 w_I.2.1 (f_I54.mono (by decide))
              have u56 : (I54 b3 5).toInt = (I48 b3 5).toInt := by rw [f_I54.2.2.1 b3 5 5 kb3 (by decide) (by decide)]
              have u57 : (I54 b3 3).toInt = (I48 b3 3).toInt := by rw [f_I54.2.2.1 b3 5 3 kb3 (by decide) (by decide)]
              have u58 : (I54 b3 6).toInt = (I48 b3 6).toInt := by rw [f_I54.2.2.1 b3 5 6 kb3 (by decide) (by decide)]
              first | (have u59 : (I54 b3 7).toInt = ((I48 b3 7).toInt - r33.toInt) := by (rw [eI54, show jpI I48 b3 7 ((I48 b3 7) - r33) b3 7 = ((I48 b3 7) - r33) from jpI_at] <;> exact (i_sub rfl rfl (by omega) (by omega)))) | skip
              intro I60 eI60
              have w_I60 : WD Z I60 := by rw [eI60]; exact WD_putF w_I54 5 5 kb3 (by decide) (by decide) (by constructor <;> omega)
              have f_I60 : FR [(5, 5)] Z I54 Z I60 := by rw [eI60]; exact FR_putF kb3 (by decide) List.mem_cons_self
              have q_I60 : FR Ws_X11_tread Z I Z I60 := q_I54.trans w_I.1 w_I.2.1 (f_I60.mono (by decide))
              have u61 : (I60 b3 3).toInt = (I54 b3 3).toInt := by rw [f_I60.2.2.1 b3 5 3 kb3 (by decide) (by decide)]
              have u62 : (I60 b3 6).toInt = (I54 b3 6).toInt := by rw [f_I60.2.2.1 b3 5 6 kb3 (by decide) (by decide)]
              have u63 : (I60 b3 7).toInt = (I54 b3 7).toInt := by rw [f_I60.2.2.1 b3 5 7 kb3 (by decide) (by decide)]
              first | (have u64 : (I60 b3 5).toInt = v2.toInt := by (rw [eI60, show jpI I54 b3 5 v2 b3 5 = v2 from jpI_at] <;> exact rfl)) | skip
              exact hQ r33 I60 L43 w_I60 q_I60 
            · skip
              first | (have t65 : ¬ (r33.toInt ≤ (I35 b3 7).toInt) := (not_congr (i_le rfl rfl)).mp c40) | (have t65 : ¬ (r33.toInt ≤ (I35 b3 7).toInt) := (not_congr (i_le rfl rfl)).mp c40) | skip
              have t66 : (-5 : Int32).toInt = -5 := rfl
              exact hQ (-5 : Int32) I35 L36 w_I35 q_I35 
          · skip
            first | (have t67 : ¬ (r27.toInt ≤ (I b3 6).toInt) := (not_congr (i_le rfl rfl)).mp c28) | (have t67 : ¬ (r27.toInt ≤ (I b3 6).toInt) := (not_congr (i_le rfl rfl)).mp c28) | skip
            have t68 : (-4 : Int32).toInt = -4 := rfl
            exact hQ (-4 : Int32) I L w_I q_I 
        · skip
          first | (have t69 : ¬ (r21.toInt = (0)) := (not_congr (i_eq rfl (show (0 : Int32).toInt = 0 from rfl))).mp c22) | (have t69 : ¬ (r21.toInt = (0 : Int32).toInt) := (not_congr (i_eq rfl rfl)).mp c22) | skip
          have t70 : (-3 : Int32).toInt = -3 := rfl
          exact hQ (-3 : Int32) I L w_I q_I 
      · skip
        first | (have t71 : r12.toInt = (0) := (i_eq rfl (show (0 : Int32).toInt = 0 from rfl)).mp c14) | (have t71 : r12.toInt = (0 : Int32).toInt := (i_eq rfl rfl).mp c14) | skip
        have t72 : (-2 : Int32).toInt = -2 := rfl
        exact hQ (-2 : Int32) I L w_I q_I 
    · skip
      first | (have t73 : r8.toInt = (0) := (i_eq rfl (show (0 : Int32).toInt = 0 from rfl)).mp c10) | (have t73 : r8.toInt = (0 : Int32).toInt := (i_eq rfl rfl).mp c10) | skip
      have t74 : (-1 : Int32).toInt = -1 := rfl
      exact hQ (-1 : Int32) I L w_I q_I 
def Ws_X11_rests : List (Nat × Nat) := [(3, 2), (5, 6), (5, 7), (8, 8), (11, 5), (11, 6), (11, 7)]
set_option maxHeartbeats 4000000 in
set_option maxRecDepth 100000 in
theorem s_X11_rests {Z : jZ} {I : jI} {L : jL} (w_I : WD Z I) (v0 : Nat) (v1 : Int32) (v2 : Int32) (kv0 : jk Z v0 11) {Q : Int32 → jI → jL → Prop} (hQ : ∀ (r : Int32) (I' : jI) (L' : jL), WD Z I' → FR Ws_X11_rests Z I Z I' → Q r I' L') : f_X11_rests v0 v1 v2 Z I L Q := by
  unfold f_X11_rests
  have q_I : FR Ws_X11_rests Z I Z I := FR.rf
  have rv1 := i_rng v1
  have rv2 := i_rng v2
  refine s_X11_find w_I v0 v1 kv0   (fun r1 p2 => ?_)
  refine ⟨fun c4 => ?_, fun b3 c4 => ?_⟩
  · skip
    have t5 : (-1 : Int32).toInt = -1 := rfl
    exact hQ (-1 : Int32) I L w_I q_I 
  · skip
    have kb3 : jk Z b3 5 := by first | exact p2 b3 c4 | exact (p2 b3 c4).1 | exact (p2.1 b3 c4).1
    refine ⟨fun c6 => ?_, fun c6 => ?_⟩
    · skip
      first | (have t7 : v2.toInt < (1) := (i_lt rfl (show (1 : Int32).toInt = 1 from rfl)).mp c6) | (have t7 : v2.toInt < (1 : Int32).toInt := (i_lt rfl rfl).mp c6) | skip
      have t8 : (-1 : Int32).toInt = -1 := rfl
      exact hQ (-1 : Int32) I L w_I q_I 
    · skip
      first | (have t9 : ¬ (v2.toInt < (1)) := (not_congr (i_lt rfl (show (1 : Int32).toInt = 1 from rfl))).mp c6) | (have t9 : ¬ (v2.toInt < (1 : Int32).toInt) := (not_congr (i_lt rfl rfl)).mp c6) | skip
      refine ⟨fun c10 => ?_, fun c10 => ?_⟩
      · skip
        first | (have t11 : v2.toInt ≤ (30) := (i_le rfl (show (30 : Int32).toInt = 30 from rfl)).mp c10) | (have t11 : v2.toInt ≤ (30 : Int32).toInt := (i_le rfl rfl).mp c10) | skip
        intro b12 eb12
        obtain ⟨x13, ex13, kb12⟩ := sh_o w_I.1 kv0 (j := 2) (k := 8) rfl
        cases eb12.symm.trans ex13
        have t15 : -1 ≤ (I b3 5).toInt ∧ (I b3 5).toInt ≤ 23 := w_I.fld 5 5 kb3 (by decide)
        have t17 : -1 ≤ (I b3 5).toInt ∧ (I b3 5).toInt ≤ 23 := w_I.fld 5 5 kb3 (by decide)
        have t18 : (0 : Int32).toInt = 0 := rfl
        have t19 : (0 : Int32).toInt = 0 := rfl
        refine s_X8_priceOf w_I b12 (0 : Int32) (I b3 5) (I b3 5) (0 : Int32) (I b3 3) kb12   (fun r20 I22 L23 w_I22 f_I22 p21 => ?_)
        have q_I22 : FR Ws_X11_rests Z I Z I22 := q_I.trans w_I.1 w_I.2.1 (f_I22.mono (by decide))
        have u24 : (I22 b3 5).toInt = (I b3 5).toInt := by rw [f_I22.2.2.1 b3 5 5 kb3 (by decide) (by decide)]
        have u25 : (I22 b3 3).toInt = (I b3 3).toInt := by rw [f_I22.2.2.1 b3 5 3 kb3 (by decide) (by decide)]
        have rr20 := i_rng r20
        refine ⟨fun c26 => ?_, fun c26 => ?_⟩
        · skip
          first | (have t27 : r20.toInt ≤ (I22 b3 7).toInt := (i_le rfl rfl).mp c26) | (have t27 : r20.toInt ≤ (I22 b3 7).toInt := (i_le rfl rfl).mp c26) | skip
          intro b28 eb28
          obtain rfl : b12 = b28 := Option.some.inj (eb12.symm.trans eb28)
          have t30 : -1 ≤ (I22 b3 5).toInt ∧ (I22 b3 5).toInt ≤ 23 := w_I22.fld 5 5 kb3 (by decide)
          refine s_X8_has w_I22 b12 (I22 b3 5) kb12   (fun r31 p32 => ?_)
          have rr31 := i_rng r31
          refine ⟨fun c33 => ?_, fun c33 => ?_⟩
          · skip
            first | (have t34 : r31.toInt = (0) := (i_eq rfl (show (0 : Int32).toInt = 0 from rfl)).mp c33) | (have t34 : r31.toInt = (0 : Int32).toInt := (i_eq rfl rfl).mp c33) | skip
            unfold f_X11_rests_b83
            intro I35 eI35
            try (have t36 : ((I22 b3 7) - r20).toInt = ((I22 b3 7).toInt - r20.toInt) := (i_sub rfl rfl (by omega) (by omega)))
            have w_I35 : WD Z I35 := by rw [eI35]; exact WD_putF w_I22 5 7 kb3 (by decide) (by decide) trivial
            have f_I35 : FR [(5, 7)] Z I22 Z I35 := by rw [eI35]; exact FR_putF kb3 (by decide) List.mem_cons_self
            have q_I35 : FR Ws_X11_rests Z I Z I35 := q_I22.trans w_I.1 w_I.2.1 (f_I35.mono (by decide))
            have u37 : (I35 b3 5).toInt = (I22 b3 5).toInt := by rw [f_I35.2.2.1 b3 5 5 kb3 (by decide) (by decide)]
            have u38 : (I35 b3 3).toInt = (I22 b3 3).toInt := by rw [f_I35.2.2.1 b3 5 3 kb3 (by decide) (by decide)]
            first | (have u39 : (I35 b3 7).toInt = ((I22 b3 7).toInt - r20.toInt) := by (rw [eI35, show jpI I22 b3 7 ((I22 b3 7) - r20) b3 7 = ((I22 b3 7) - r20) from jpI_at] <;> exact (i_sub rfl rfl (by omega) (by omega)))) | skip
            intro I40 eI40
            try (have t41 : (if ((I35 b3 6) + v2) < (I35 b3 0) then ((I35 b3 6) + v2) else (I35 b3 0)).toInt = (min (I35 b3 0).toInt ((I35 b3 6).toInt + v2.toInt)) := (i_min rfl (i_add rfl rfl (by omega) (by omega))))
            have w_I40 : WD Z I40 := by rw [eI40]; exact WD_putF w_I35 5 6 kb3 (by decide) (by decide) trivial
            have f_I40 : FR [(5, 6)] Z I35 Z I40 := by rw [eI40]; exact FR_putF kb3 (by decide) List.mem_cons_self
            have q_I40 : FR Ws_X11_rests Z I Z I40 := q_I35.trans w_I.1 w_I.2.1 (f_I40.mono (by decide))
            have u42 : (I40 b3 5).toInt = (I35 b3 5).toInt := by rw [f_I40.2.2.1 b3 5 5 kb3 (by decide) (by decide)]
            have u43 : (I40 b3 3).toInt = (I35 b3 3).toInt := by rw [f_I40.2.2.1 b3 5 3 kb3 (by decide) (by decide)]
            have u44 : (I40 b3 7).toInt = (I35 b3 7).toInt := by rw [f_I40.2.2.1 b3 5 7 kb3 (by decide) (by decide)]
            have u45 : (I40 b3 0).toInt = (I35 b3 0).toInt := by rw [f_I40.2.2.1 b3 5 0 kb3 (by decide) (by decide)]
            first | (have u46 : (I40 b3 6).toInt = (min (I35 b3 0).toInt ((I35 b3 6).toInt + v2.toInt)) := by (rw [eI40, show jpI I35 b3 6 (if ((I35 b3 6) + v2) < (I35 b3 0) then ((I35 b3 6) + v2) else (I35 b3 0)) b3 6 = (if ((I35 b3 6) + v2) < (I35 b3 0) then ((I35 b3 6) + v2) else (I35 b3 0)) from jpI_at] <;> exact (i_min rfl (i_add rfl rfl (by omega) (by omega))))) | skip
            exact hQ r20 I40 L23 w_I40 q_I40 
          · skip
            first | (have t47 : ¬ (r31.toInt = (0)) := (not_congr (i_eq rfl (show (0 : Int32).toInt = 0 from rfl))).mp c33) | (have t47 : ¬ (r31.toInt = (0 : Int32).toInt) := (not_congr (i_eq rfl rfl)).mp c33) | skip
            have t49 : -1 ≤ (I22 b3 5).toInt ∧ (I22 b3 5).toInt ≤ 23 := w_I22.fld 5 5 kb3 (by decide)
            have t50 : (1 : Int32).toInt = 1 := rfl
            refine s_X11_lead w_I22 v0 r20 (I22 b3 5) (1 : Int32) kv0   (fun  I51 L52 w_I51 f_I51  => ?_)
            have q_I51 : FR Ws_X11_rests Z I Z I51 := q_I22.trans w_I.1 w_I.2.1 (f_I51.mono (by decide))
            have u53 : (I51 b3 5).toInt = (I22 b3 5).toInt := by rw [f_I51.2.2.1 b3 5 5 kb3 (by decide) (by decide)]
            have u54 : (I51 b3 3).toInt = (I22 b3 3).toInt := by rw [f_I51.2.2.1 b3 5 3 kb3 (by decide) (by decide)]
            have u55 : (I51 b3 7).toInt = (I22 b3 7).toInt := by rw [f_I51.2.2.1 b3 5 7 kb3 (by decide) (by decide)]
            unfold f_X11_rests_b83
            intro I56 eI56
            try (have t57 : ((I51 b3 7) - r20).toInt = ((I51 b3 7).toInt - r20.toInt) := (i_sub rfl rfl (by omega) (by omega)))
            have w_I56 : WD Z I56 := by rw [eI56]; exact WD_putF w_I51 5 7 kb3 (by decide) (by decide) trivial
            have f_I56 : FR [(5, 7)] Z I51 Z I56 := by rw [eI56]; exact FR_putF kb3 (by decide) List.mem_cons_self
            have q_I56 : FR Ws_X11_rests Z I Z I56 := q_I51.trans w_I.1 w_I.2.1 (f_I56.mono (by decide))
            have u58 : (I56 b3 5).toInt = (I51 b3 5).toInt := by rw [f_I56.2.2.1 b3 5 5 kb3 (by decide) (by decide)]
            have u59 : (I56 b3 3).toInt = (I51 b3 3).toInt := by rw [f_I56.2.2.1 b3 5 3 kb3 (by decide) (by decide)]
            first | (have u60 : (I56 b3 7).toInt = ((I51 b3 7).toInt - r20.toInt) := by (rw [eI56, show jpI I51 b3 7 ((I51 b3 7) - r20) b3 7 = ((I51 b3 7) - r20) from jpI_at] <;> exact (i_sub rfl rfl (by omega) (by omega)))) | skip
            intro I61 eI61
            try (have t62 : (if ((I56 b3 6) + v2) < (I56 b3 0) then ((I56 b3 6) + v2) else (I56 b3 0)).toInt = (min (I56 b3 0).toInt ((I56 b3 6).toInt + v2.toInt)) := (i_min rfl (i_add rfl rfl (by omega) (by omega))))
            have w_I61 : WD Z I61 := by rw [eI61]; exact WD_putF w_I56 5 6 kb3 (by decide) (by decide) trivial
            have f_I61 : FR [(5, 6)] Z I56 Z I61 := by rw [eI61]; exact FR_putF kb3 (by decide) List.mem_cons_self
            have q_I61 : FR Ws_X11_rests Z I Z I61 := q_I56.trans w_I.1 w_I.2.1 (f_I61.mono (by decide))
            have u63 : (I61 b3 5).toInt = (I56 b3 5).toInt := by rw [f_I61.2.2.1 b3 5 5 kb3 (by decide) (by decide)]
            have u64 : (I61 b3 3).toInt = (I56 b3 3).toInt := by rw [f_I61.2.2.1 b3 5 3 kb3 (by decide) (by decide)]
            have u65 : (I61 b3 7).toInt = (I56 b3 7).toInt := by rw [f_I61.2.2.1 b3 5 7 kb3 (by decide) (by decide)]
            have u66 : (I61 b3 0).toInt = (I56 b3 0).toInt := by rw [f_I61.2.2.1 b3 5 0 kb3 (by decide) (by decide)]
            first | (have u67 : (I61 b3 6).toInt = (min (I56 b3 0).toInt ((I56 b3 6).toInt + v2.toInt)) := by (rw [eI61, show jpI I56 b3 6 (if ((I56 b3 6) + v2) < (I56 b3 0) then ((I56 b3 6) + v2) else (I56 b3 0)) b3 6 = (if ((I56 b3 6) + v2) < (I56 b3 0) then ((I56 b3 6) + v2) else (I56 b3 0)) from jpI_at] <;> exact (i_min rfl (i_add rfl rfl (by omega) (by omega))))) | skip
            exact hQ r20 I61 L52 w_I61 q_I61 
        · skip
          first | (have t68 : ¬ (r20.toInt ≤ (I22 b3 7).toInt) := (not_congr (i_le rfl rfl)).mp c26) | (have t68 : ¬ (r20.toInt ≤ (I22 b3 7).toInt) := (not_congr (i_le rfl rfl)).mp c26) | skip
          have t69 : (-5 : Int32).toInt = -5 := rfl
          exact hQ (-5 : Int32) I22 L23 w_I22 q_I22 
      · skip
        first | (have t70 : ¬ (v2.toInt ≤ (30)) := (not_congr (i_le rfl (show (30 : Int32).toInt = 30 from rfl))).mp c10) | (have t70 : ¬ (v2.toInt ≤ (30 : Int32).toInt) := (not_congr (i_le rfl rfl)).mp c10) | skip
        have t71 : (-1 : Int32).toInt = -1 := rfl
        exact hQ (-1 : Int32) I L w_I q_I 
def Ws_X11_returns : List (Nat × Nat) := [(5, 5), (5, 6)]
set_option maxHeartbeats 4000000 in
set_option maxRecDepth 100000 in
theorem s_X11_returns {Z : jZ} {I : jI} {L : jL} (w_I : WD Z I) (v0 : Nat) (v1 : Int32) (kv0 : jk Z v0 11) {Q : Int32 → jI → jL → Prop} (hQ : ∀ (r : Int32) (I' : jI) (L' : jL), WD Z I' → FR Ws_X11_returns Z I Z I' → Q r I' L') : f_X11_returns v0 v1 Z I L Q := by
  unfold f_X11_returns
  have q_I : FR Ws_X11_returns Z I Z I := FR.rf
  have rv1 := i_rng v1
  refine s_X11_find w_I v0 v1 kv0   (fun r1 p2 => ?_)
  refine ⟨fun c4 => ?_, fun b3 c4 => ?_⟩
  · skip
    have t5 : (-1 : Int32).toInt = -1 := rfl
    exact hQ (-1 : Int32) I L w_I q_I 
  · skip
    have kb3 : jk Z b3 5 := by first | exact p2 b3 c4 | exact (p2 b3 c4).1 | exact (p2.1 b3 c4).1
    have t7 : -1 ≤ (I b3 5).toInt ∧ (I b3 5).toInt ≤ 23 := w_I.fld 5 5 kb3 (by decide)
    intro x8 ex8
    have rx8 := i_rng x8
    first | (have tx8 : x8.toInt = (I b3 5).toInt := by (rw [ex8]; exact rfl)) | (have tx8 : x8.toInt = (I b3 5).toInt := by rw [ex8])
    intro I9 eI9
    have t10 : (-1 : Int32).toInt = -1 := rfl
    have w_I9 : WD Z I9 := by rw [eI9]; exact WD_putF w_I 5 5 kb3 (by decide) (by decide) (by constructor <;> omega)
    have f_I9 : FR [(5, 5)] Z I Z I9 := by rw [eI9]; exact FR_putF kb3 (by decide) List.mem_cons_self
    have q_I9 : FR Ws_X11_returns Z I Z I9 := q_I.trans w_I.1 w_I.2.1 (f_I9.mono (by decide))
    first | (have u11 : (I9 b3 5).toInt = (-1) := by (rw [eI9, show jpI I b3 5 (-1 : Int32) b3 5 = (-1 : Int32) from jpI_at] <;> exact (show (-1 : Int32).toInt = -1 from rfl))) | skip
    intro I12 eI12
    have w_I12 : WD Z I12 := by rw [eI12]; exact WD_putF w_I9 5 6 kb3 (by decide) (by decide) trivial
    have f_I12 : FR [(5, 6)] Z I9 Z I12 := by rw [eI12]; exact FR_putF kb3 (by decide) List.mem_cons_self
    have q_I12 : FR Ws_X11_returns Z I Z I12 := q_I9.trans w_I.1 w_I.2.1 (f_I12.mono (by decide))
    have u13 : (I12 b3 5).toInt = (I9 b3 5).toInt := by rw [f_I12.2.2.1 b3 5 5 kb3 (by decide) (by decide)]
    have u14 : (I12 b3 0).toInt = (I9 b3 0).toInt := by rw [f_I12.2.2.1 b3 5 0 kb3 (by decide) (by decide)]
    first | (have u15 : (I12 b3 6).toInt = (I9 b3 0).toInt := by (rw [eI12, show jpI I9 b3 6 (I9 b3 0) b3 6 = (I9 b3 0) from jpI_at] <;> exact rfl)) | skip
    exact hQ x8 I12 L w_I12 q_I12 
def Ws_X11_earned : List (Nat × Nat) := [(11, 16)]
set_option maxHeartbeats 4000000 in
set_option maxRecDepth 100000 in
theorem s_X11_earned {Z : jZ} {I : jI} {L : jL} (w_I : WD Z I) (v0 : Nat) (v1 : Int32) (kv0 : jk Z v0 11) {Q : Int32 → jI → jL → Prop} (hQ : ∀ (r : Int32) (I' : jI) (L' : jL), WD Z I' → FR Ws_X11_earned Z I Z I' → Q r I' L') : f_X11_earned v0 v1 Z I L Q := by
  unfold f_X11_earned
  have q_I : FR Ws_X11_earned Z I Z I := FR.rf
  have rv1 := i_rng v1
  refine s_X11_isFamily w_I v1    (fun r1 p2 => ?_)
  have rr1 := i_rng r1
  refine ⟨fun c3 => ?_, fun c3 => ?_⟩
  · skip
    first | (have t4 : ¬ (r1.toInt = (0)) := (not_congr (i_eq rfl (show (0 : Int32).toInt = 0 from rfl))).mp c3) | (have t4 : ¬ (r1.toInt = (0 : Int32).toInt) := (not_congr (i_eq rfl rfl)).mp c3) | skip
    intro b5 eb5
    obtain ⟨x6, ex6, kb5⟩ := sh_o w_I.1 kv0 (j := 2) (k := 8) rfl
    cases eb5.symm.trans ex6
    intro b7 eb7
    obtain ⟨x8, ex8, kb7⟩ := sh_o w_I.1 kb5 (j := 4) (k := 4) rfl
    cases eb7.symm.trans ex8
    refine s_X4_sumOf w_I b7 v1 kb7   (fun r9  => ?_)
    have rr9 := i_rng r9
    refine s_X11_tellOne w_I v0 (r9.toInt64) kv0   (fun  I10 L11 w_I10 f_I10  => ?_)
    have q_I10 : FR Ws_X11_earned Z I Z I10 := q_I.trans w_I.1 w_I.2.1 (f_I10.mono (by decide))
    intro b12 eb12
    obtain ⟨x13, ex13, kb12, lb12⟩ := sh_f w_I10.1 kv0 (j := 5) (k := 14) (m := 8) rfl
    cases eb12.symm.trans ex13
    have o14 : vp_in v1 8 := vi_of rfl (by omega) (by omega)
    refine ⟨o14, ?_⟩
    exact hQ (I10 b12 v1.toNatClampNeg) I10 L11 w_I10 q_I10 
  · skip
    first | (have t15 : r1.toInt = (0) := (i_eq rfl (show (0 : Int32).toInt = 0 from rfl)).mp c3) | (have t15 : r1.toInt = (0 : Int32).toInt := (i_eq rfl rfl).mp c3) | skip
    have t16 : (-1 : Int32).toInt = -1 := rfl
    exact hQ (-1 : Int32) I L w_I q_I 
set_option maxHeartbeats 4000000 in
set_option maxRecDepth 100000 in
theorem s_X11_movesIn {Z : jZ} {I : jI} {L : jL} (w_I : WD Z I) (v0 : Int64) {Q : Int32 → jI → jL → Prop} (hQ : ∀ (r : Int32), Q r I L) : f_X11_movesIn v0 Z I L Q := by
  unfold f_X11_movesIn
  have t1 : 0 ≤ ((((v0.toUInt64 >>> ((24 : Int32).toInt64.toUInt64 &&& Int64.toUInt64 63)).toInt64).toInt32) &&& (31 : Int32)).toInt ∧ ((((v0.toUInt64 >>> ((24 : Int32).toInt64.toUInt64 &&& Int64.toUInt64 63)).toInt64).toInt32) &&& (31 : Int32)).toInt < 2 ^ 5 := i_and (n := 5) (by decide)
  exact hQ ((((v0.toUInt64 >>> ((24 : Int32).toInt64.toUInt64 &&& Int64.toUInt64 63)).toInt64).toInt32) &&& (31 : Int32)) 
def Ws_X11_tellFraction : List (Nat × Nat) := [(11, 16)]
set_option maxHeartbeats 4000000 in
set_option maxRecDepth 100000 in
theorem l_X11_tellFraction_L9 {Z : jZ} {I0 : jI} {Q : jI → jL → Prop} (w0 : WD Z I0) (v0 : Nat) (v1 : Int64) (v3 : Int64) (kv0 : jk Z v0 11) (hQ : ∀  (I' : jI) (L' : jL), WD Z I' → FR Ws_X11_tellFraction Z I0 Z I' → Q I' L') : ∀ (n : Nat) (v5 : Int64) (v7 : Int64) (v9 : Int32) (I : jI) (L : jL), WD Z I → FR Ws_X11_tellFraction Z I0 Z I →   (0 ≤ v9.toInt ∧ v9.toInt ≤ 100) → 100 - v9.toInt < (n : Int) → f_X11_tellFraction_L9  Z Q n v0 v1 v3 v5 v7 v9 I L := by
  intro n
  induction n with
  | zero =>
    intro v5 v7 v9 I L w_I q_I   li  me
    exfalso
    omega
  | succ n ih =>
    intro v5 v7 v9 I L w_I q_I   li  me
    unfold f_X11_tellFraction_L9
    have rv9 := i_rng v9
    refine ⟨fun c1 => ?_, fun c1 => ?_⟩
    · skip
      first | (have t2 : (100) ≤ v9.toInt := (i_le (show (100 : Int32).toInt = 100 from rfl) rfl).mp c1) | (have t2 : (100 : Int32).toInt ≤ v9.toInt := (i_le rfl rfl).mp c1) | skip
      unfold f_X11_tellFraction_b44
      refine ⟨fun c3 => ?_, fun c3 => ?_⟩
      · skip
        first | (have t4 : (lg_cmp v5 (0 : Int64)).toInt = (0) := (i_eq rfl (show (0 : Int32).toInt = 0 from rfl)).mp c3) | (have t4 : (lg_cmp v5 (0 : Int64)).toInt = (0 : Int32).toInt := (i_eq rfl rfl).mp c3) | skip
        exact hQ  I L w_I q_I 
      · skip
        first | (have t5 : ¬ ((lg_cmp v5 (0 : Int64)).toInt = (0)) := (not_congr (i_eq rfl (show (0 : Int32).toInt = 0 from rfl))).mp c3) | (have t5 : ¬ ((lg_cmp v5 (0 : Int64)).toInt = (0 : Int32).toInt) := (not_congr (i_eq rfl rfl)).mp c3) | skip
        refine ⟨by first | assumption | (intro h9; first | exact c3 (by rw [h9]; rfl) | omega), ?_⟩
        refine ⟨by first | assumption | (intro h9; first | exact c3 (by rw [h9]; rfl) | omega), ?_⟩
        refine s_X11_tellTwo w_I v0 (v1 / v5) (v3 / v5) kv0   (fun  I6 L7 w_I6 f_I6  => ?_)
        have q_I6 : FR Ws_X11_tellFraction Z I0 Z I6 := q_I.trans w0.1 w0.2.1 (f_I6.mono (by decide))
        exact hQ  I6 L7 w_I6 q_I6 
    · skip
      first | (have t8 : ¬ ((100) ≤ v9.toInt) := (not_congr (i_le (show (100 : Int32).toInt = 100 from rfl) rfl)).mp c1) | (have t8 : ¬ ((100 : Int32).toInt ≤ v9.toInt) := (not_congr (i_le rfl rfl)).mp c1) | skip
      refine ⟨fun c9 => ?_, fun c9 => ?_⟩
      · skip
        first | (have t10 : (lg_cmp v7 (0 : Int64)).toInt = (0) := (i_eq rfl (show (0 : Int32).toInt = 0 from rfl)).mp c9) | (have t10 : (lg_cmp v7 (0 : Int64)).toInt = (0 : Int32).toInt := (i_eq rfl rfl).mp c9) | skip
        unfold f_X11_tellFraction_b44
        refine ⟨fun c11 => ?_, fun c11 => ?_⟩
        · skip
          first | (have t12 : (lg_cmp v5 (0 : Int64)).toInt = (0) := (i_eq rfl (show (0 : Int32).toInt = 0 from rfl)).mp c11) | (have t12 : (lg_cmp v5 (0 : Int64)).toInt = (0 : Int32).toInt := (i_eq rfl rfl).mp c11) | skip
          exact hQ  I L w_I q_I 
        · skip
          first | (have t13 : ¬ ((lg_cmp v5 (0 : Int64)).toInt = (0)) := (not_congr (i_eq rfl (show (0 : Int32).toInt = 0 from rfl))).mp c11) | (have t13 : ¬ ((lg_cmp v5 (0 : Int64)).toInt = (0 : Int32).toInt) := (not_congr (i_eq rfl rfl)).mp c11) | skip
          refine ⟨by first | assumption | (intro h9; first | exact c3 (by rw [h9]; rfl) | exact c9 (by rw [h9]; rfl) | exact c11 (by rw [h9]; rfl) | omega), ?_⟩
          refine ⟨by first | assumption | (intro h9; first | exact c3 (by rw [h9]; rfl) | exact c9 (by rw [h9]; rfl) | exact c11 (by rw [h9]; rfl) | omega), ?_⟩
          refine s_X11_tellTwo w_I v0 (v1 / v5) (v3 / v5) kv0   (fun  I14 L15 w_I14 f_I14  => ?_)
          have q_I14 : FR Ws_X11_tellFraction Z I0 Z I14 := q_I.trans w0.1 w0.2.1 (f_I14.mono (by decide))
          exact hQ  I14 L15 w_I14 q_I14 
      · skip
        first | (have t16 : ¬ ((lg_cmp v7 (0 : Int64)).toInt = (0)) := (not_congr (i_eq rfl (show (0 : Int32).toInt = 0 from rfl))).mp c9) | (have t16 : ¬ ((lg_cmp v7 (0 : Int64)).toInt = (0 : Int32).toInt) := (not_congr (i_eq rfl rfl)).mp c9) | skip
        refine ⟨by first | assumption | (intro h9; first | exact c3 (by rw [h9]; rfl) | exact c9 (by rw [h9]; rfl) | exact c11 (by rw [h9]; rfl) | omega), ?_⟩
        intro x17 ex17
        intro x18 ex18
        have rx18 := i_rng x18
        first | (have tx18 : x18.toInt = v9.toInt + (1) := by (rw [ex18]; exact (i_add rfl (show (1 : Int32).toInt = 1 from rfl) (by omega) (by omega)))) | skip
        exact ih v7 x17 x18 I L w_I q_I   (by omega)  (by omega)
set_option maxHeartbeats 4000000 in
set_option maxRecDepth 100000 in
theorem s_X11_tellFraction {Z : jZ} {I : jI} {L : jL} (w_I : WD Z I) (v0 : Nat) (v1 : Int64) (v3 : Int64) (kv0 : jk Z v0 11) {Q : jI → jL → Prop} (hQ : ∀  (I' : jI) (L' : jL), WD Z I' → FR Ws_X11_tellFraction Z I Z I' → Q I' L') : f_X11_tellFraction v0 v1 v3 Z I L Q := by
  unfold f_X11_tellFraction
  have q_I : FR Ws_X11_tellFraction Z I Z I := FR.rf
  have t19 : (0 : Int32).toInt = 0 := rfl
  exact ⟨(100 - (0 : Int32).toInt).toNat + 1, l_X11_tellFraction_L9 w_I v0 v1 v3 kv0   hQ   _ v3 v1 (0 : Int32) I L w_I q_I   (by omega)  (by omega)⟩
def Ws_X11_tellDifferences : List (Nat × Nat) := [(11, 16)]
set_option maxHeartbeats 4000000 in
set_option maxRecDepth 100000 in
theorem l_X11_tellDifferences_L8 {Z : jZ} {I0 : jI} {Q : Int32 → jI → jL → Prop} (w0 : WD Z I0) (v0 : Nat) (kv0 : jk Z v0 11) (hQ : ∀ (r : Int32) (I' : jI) (L' : jL), WD Z I' → FR Ws_X11_tellDifferences Z I0 Z I' → Q r I' L') : ∀ (n : Nat) (v1 : Int32) (v2 : Int32) (I : jI) (L : jL), WD Z I → FR Ws_X11_tellDifferences Z I0 Z I →   (0 ≤ v2.toInt ∧ v2.toInt ≤ 3) → 3 - v2.toInt < (n : Int) → f_X11_tellDifferences_L8  Z Q n v0 v1 v2 I L := by
  intro n
  induction n with
  | zero =>
    intro v1 v2 I L w_I q_I   li  me
    exfalso
    omega
  | succ n ih =>
    intro v1 v2 I L w_I q_I   li  me
    unfold f_X11_tellDifferences_L8
    have rv1 := i_rng v1
    have rv2 := i_rng v2
    intro b1 eb1
    obtain ⟨x2, ex2, kb1, lb1⟩ := sh_f w_I.1 kv0 (j := 11) (k := 14) (m := 3) rfl
    cases eb1.symm.trans ex2
    refine ⟨fun c3 => ?_, fun c3 => ?_⟩
    · skip
      first | (have t4 : (3) ≤ v2.toInt := (i_le (show (3 : Int32).toInt = 3 from rfl) rfl).mp c3) | (have t4 : (3 : Int32).toInt ≤ v2.toInt := (i_le rfl rfl).mp c3) | skip
      refine ⟨fun c5 => ?_, fun c5 => ?_⟩
      · skip
        first | (have t6 : v1.toInt = (0) := (i_eq rfl (show (0 : Int32).toInt = 0 from rfl)).mp c5) | (have t6 : v1.toInt = (0 : Int32).toInt := (i_eq rfl rfl).mp c5) | skip
        have t7 : (0 : Int32).toInt = 0 := rfl
        exact hQ (0 : Int32) I L w_I q_I 
      · skip
        first | (have t8 : ¬ (v1.toInt = (0)) := (not_congr (i_eq rfl (show (0 : Int32).toInt = 0 from rfl))).mp c5) | (have t8 : ¬ (v1.toInt = (0 : Int32).toInt) := (not_congr (i_eq rfl rfl)).mp c5) | skip
        have t9 : (1 : Int32).toInt = 1 := rfl
        exact hQ (1 : Int32) I L w_I q_I 
    · skip
      first | (have t10 : ¬ ((3) ≤ v2.toInt) := (not_congr (i_le (show (3 : Int32).toInt = 3 from rfl) rfl)).mp c3) | (have t10 : ¬ ((3 : Int32).toInt ≤ v2.toInt) := (not_congr (i_le rfl rfl)).mp c3) | skip
      intro b11 eb11
      obtain ⟨x12, ex12, kb11, lb11⟩ := sh_f w_I.1 kv0 (j := 12) (k := 14) (m := 3) rfl
      cases eb11.symm.trans ex12
      have o13 : vp_in v2 3 := vi_of rfl (by omega) (by omega)
      refine ⟨o13, ?_⟩
      intro b14 eb14
      obtain rfl : b1 = b14 := Option.some.inj (eb1.symm.trans eb14)
      have o15 : vp_in v2 3 := vi_of rfl (by omega) (by omega)
      refine ⟨o15, ?_⟩
      refine s_X11_tellMore w_I v0 (((I b11 v2.toNatClampNeg) - (I b1 v2.toNatClampNeg)).toInt64) kv0   (fun  I16 L17 w_I16 f_I16  => ?_)
      have q_I16 : FR Ws_X11_tellDifferences Z I0 Z I16 := q_I.trans w0.1 w0.2.1 (f_I16.mono (by decide))
      intro b18 eb18
      obtain rfl : b11 = b18 := Option.some.inj (eb11.symm.trans eb18)
      have o19 : vp_in v2 3 := vi_of rfl (by omega) (by omega)
      refine ⟨o19, ?_⟩
      intro b20 eb20
      obtain rfl : b1 = b20 := Option.some.inj (eb1.symm.trans eb20)
      have o21 : vp_in v2 3 := vi_of rfl (by omega) (by omega)
      refine ⟨o21, ?_⟩
      refine ⟨fun c22 => ?_, fun c22 => ?_⟩
      · skip
        first | (have t23 : (I16 b11 v2.toNatClampNeg).toInt = (I16 b1 v2.toNatClampNeg).toInt := (i_eq rfl rfl).mp c22) | (have t23 : (I16 b11 v2.toNatClampNeg).toInt = (I16 b1 v2.toNatClampNeg).toInt := (i_eq rfl rfl).mp c22) | skip
        unfold f_X11_tellDifferences_b56
        intro x24 ex24
        have rx24 := i_rng x24
        first | (have tx24 : x24.toInt = (v1 ||| (0 : Int32)).toInt := by (rw [ex24]; exact rfl)) | (have tx24 : x24.toInt = (v1 ||| (0 : Int32)).toInt := by rw [ex24])
        intro x25 ex25
        have rx25 := i_rng x25
        first | (have tx25 : x25.toInt = v2.toInt + (1) := by (rw [ex25]; exact (i_add rfl (show (1 : Int32).toInt = 1 from rfl) (by omega) (by omega)))) | skip
        exact ih x24 x25 I16 L17 w_I16 q_I16   (by omega)  (by omega)
      · skip
        first | (have t26 : ¬ ((I16 b11 v2.toNatClampNeg).toInt = (I16 b1 v2.toNatClampNeg).toInt) := (not_congr (i_eq rfl rfl)).mp c22) | (have t26 : ¬ ((I16 b11 v2.toNatClampNeg).toInt = (I16 b1 v2.toNatClampNeg).toInt) := (not_congr (i_eq rfl rfl)).mp c22) | skip
        unfold f_X11_tellDifferences_b56
        intro x27 ex27
        have rx27 := i_rng x27
        first | (have tx27 : x27.toInt = (v1 ||| (1 : Int32)).toInt := by (rw [ex27]; exact rfl)) | (have tx27 : x27.toInt = (v1 ||| (1 : Int32)).toInt := by rw [ex27])
        intro x28 ex28
        have rx28 := i_rng x28
        first | (have tx28 : x28.toInt = v2.toInt + (1) := by (rw [ex28]; exact (i_add rfl (show (1 : Int32).toInt = 1 from rfl) (by omega) (by omega)))) | skip
        exact ih x27 x28 I16 L17 w_I16 q_I16   (by omega)  (by omega)
set_option maxHeartbeats 4000000 in
set_option maxRecDepth 100000 in
theorem s_X11_tellDifferences {Z : jZ} {I : jI} {L : jL} (w_I : WD Z I) (v0 : Nat) (kv0 : jk Z v0 11) {Q : Int32 → jI → jL → Prop} (hQ : ∀ (r : Int32) (I' : jI) (L' : jL), WD Z I' → FR Ws_X11_tellDifferences Z I Z I' → Q r I' L') : f_X11_tellDifferences v0 Z I L Q := by
  unfold f_X11_tellDifferences
  have q_I : FR Ws_X11_tellDifferences Z I Z I := FR.rf
  refine s_X11_tellNothing w_I v0 kv0   (fun  I29 L30 w_I29 f_I29  => ?_)
  have q_I29 : FR Ws_X11_tellDifferences Z I Z I29 := q_I.trans w_I.1 w_I.2.1 (f_I29.mono (by decide))
  have t31 : (0 : Int32).toInt = 0 := rfl
  have t32 : (0 : Int32).toInt = 0 := rfl
  exact ⟨(3 - (0 : Int32).toInt).toNat + 1, l_X11_tellDifferences_L8 w_I v0 kv0   hQ   _ (0 : Int32) (0 : Int32) I29 L30 w_I29 q_I29   (by omega)  (by omega)⟩
def Ws_X11_mends : List (Nat × Nat) := [(8, 1), (11, 5), (11, 6), (11, 7)]
set_option maxHeartbeats 4000000 in
set_option maxRecDepth 100000 in
theorem s_X11_mends {Z : jZ} {I : jI} {L : jL} (w_I : WD Z I) (v0 : Nat) (v1 : Int32) (kv0 : jk Z v0 11) {Q : Int32 → jI → jL → Prop} (hQ : ∀ (r : Int32) (I' : jI) (L' : jL), WD Z I' → FR Ws_X11_mends Z I Z I' → Q r I' L') : f_X11_mends v0 v1 Z I L Q := by
  unfold f_X11_mends
  have q_I : FR Ws_X11_mends Z I Z I := FR.rf
  have rv1 := i_rng v1
  intro b1 eb1
  obtain ⟨x2, ex2, kb1⟩ := sh_o w_I.1 kv0 (j := 2) (k := 8) rfl
  cases eb1.symm.trans ex2
  refine s_X8_has w_I b1 v1 kb1   (fun r3 p4 => ?_)
  have rr3 := i_rng r3
  refine ⟨fun c5 => ?_, fun c5 => ?_⟩
  · skip
    first | (have t6 : ¬ (r3.toInt = (0)) := (not_congr (i_eq rfl (show (0 : Int32).toInt = 0 from rfl))).mp c5) | (have t6 : ¬ (r3.toInt = (0 : Int32).toInt) := (not_congr (i_eq rfl rfl)).mp c5) | skip
    intro b7 eb7
    obtain rfl : b1 = b7 := Option.some.inj (eb1.symm.trans eb7)
    intro b8 eb8
    obtain ⟨x9, ex9, kb8, lb8⟩ := sh_f w_I.1 kb1 (j := 1) (k := 14) (m := 24) rfl
    cases eb8.symm.trans ex9
    have o10 : vp_in v1 24 := vi_of rfl (by omega) (by omega)
    refine ⟨o10, ?_⟩
    intro b11 eb11
    obtain rfl : b1 = b11 := Option.some.inj (eb1.symm.trans eb11)
    intro b12 eb12
    obtain ⟨x13, ex13, kb12, lb12⟩ := sh_f w_I.1 kb1 (j := 0) (k := 14) (m := 24) rfl
    cases eb12.symm.trans ex13
    have o14 : vp_in v1 24 := vi_of rfl (by omega) (by omega)
    refine ⟨o14, ?_⟩
    intro x15 ex15
    have rx15 := i_rng x15
    first | (have tx15 : x15.toInt = (((9 : Int32) - (I b8 v1.toNatClampNeg)) * (I b12 v1.toNatClampNeg)).toInt := by (rw [ex15]; exact rfl)) | (have tx15 : x15.toInt = (((9 : Int32) - (I b8 v1.toNatClampNeg)) * (I b12 v1.toNatClampNeg)).toInt := by rw [ex15])
    have t16 : (-1 : Int32).toInt = -1 := rfl
    refine s_X11_lead w_I v0 x15 v1 (-1 : Int32) kv0   (fun  I17 L18 w_I17 f_I17  => ?_)
    have q_I17 : FR Ws_X11_mends Z I Z I17 := q_I.trans w_I.1 w_I.2.1 (f_I17.mono (by decide))
    intro b19 eb19
    obtain rfl : b1 = b19 := Option.some.inj (eb1.symm.trans eb19)
    intro b20 eb20
    obtain rfl : b8 = b20 := Option.some.inj (eb8.symm.trans eb20)
    have o21 : vp_in v1 24 := vi_of rfl (by omega) (by omega)
    refine ⟨o21, ?_⟩
    intro I22 eI22
    have t23 : (9 : Int32).toInt = 9 := rfl
    have w_I22 : WD Z I22 := by rw [eI22]; exact WD_putA w_I17 8 1 kb1 eb8 kb8 rfl rfl (by decide) trivial
    have f_I22 : FR [(8, 1)] Z I17 Z I22 := by rw [eI22]; exact FR_upA w_I17.2.1 kb1 eb8 kb8 rfl rfl List.mem_cons_self
    have q_I22 : FR Ws_X11_mends Z I Z I22 := q_I17.trans w_I.1 w_I.2.1 (f_I22.mono (by decide))
    exact hQ x15 I22 L18 w_I22 q_I22 
  · skip
    first | (have t24 : r3.toInt = (0) := (i_eq rfl (show (0 : Int32).toInt = 0 from rfl)).mp c5) | (have t24 : r3.toInt = (0 : Int32).toInt := (i_eq rfl rfl).mp c5) | skip
    have t25 : (-1 : Int32).toInt = -1 := rfl
    exact hQ (-1 : Int32) I L w_I q_I 
def Ws_X11_lamps : List (Nat × Nat) := [(11, 16)]
set_option maxHeartbeats 4000000 in
set_option maxRecDepth 100000 in
theorem l_X11_lamps_L28 {Z : jZ} {I0 : jI} {Q : Int32 → jI → jL → Prop} (w0 : WD Z I0) (v0 : Nat) (v1 : Int32) (kv0 : jk Z v0 11) (hQ : ∀ (r : Int32) (I' : jI) (L' : jL), WD Z I' → FR Ws_X11_lamps Z I0 Z I' → Q r I' L') : ∀ (n : Nat) (v2 : Int32) (I : jI) (L : jL), WD Z I → FR Ws_X11_lamps Z I0 Z I →   (0 ≤ v2.toInt ∧ v2.toInt ≤ 70 ∧ 0 ≤ v1.toInt ∧ v1.toInt ≤ 23) → 70 - v2.toInt < (n : Int) → f_X11_lamps_L28  Z Q n v0 v1 v2 I L := by
  intro n
  induction n with
  | zero =>
    intro v2 I L w_I q_I   li  me
    exfalso
    omega
  | succ n ih =>
    intro v2 I L w_I q_I   li  me
    unfold f_X11_lamps_L28
    have rv2 := i_rng v2
    have rv1 := i_rng v1
    intro b1 eb1
    obtain ⟨x2, ex2, kb1⟩ := sh_o w_I.1 kv0 (j := 2) (k := 8) rfl
    cases eb1.symm.trans ex2
    have t4 : 0 ≤ (I b1 9).toInt ∧ (I b1 9).toInt ≤ 24 := w_I.fld 8 9 kb1 (by decide)
    refine ⟨fun c5 => ?_, fun c5 => ?_⟩
    · skip
      first | (have t6 : (I b1 9).toInt ≤ v2.toInt := (i_le rfl rfl).mp c5) | (have t6 : (I b1 9).toInt ≤ v2.toInt := (i_le rfl rfl).mp c5) | skip
      have t8 : 0 ≤ (I v0 16).toInt ∧ (I v0 16).toInt ≤ 26 := w_I.fld 11 16 kv0 (by decide)
      exact hQ (I v0 16) I L w_I q_I 
    · skip
      first | (have t9 : ¬ ((I b1 9).toInt ≤ v2.toInt) := (not_congr (i_le rfl rfl)).mp c5) | (have t9 : ¬ ((I b1 9).toInt ≤ v2.toInt) := (not_congr (i_le rfl rfl)).mp c5) | skip
      intro b10 eb10
      obtain rfl : b1 = b10 := Option.some.inj (eb1.symm.trans eb10)
      have t12 : 0 ≤ (I b1 9).toInt ∧ (I b1 9).toInt ≤ 24 := w_I.fld 8 9 kb1 (by decide)
      refine s_X11_tellMore w_I v0 ((if ((I b1 9) - (1 : Int32)) < (v2 + v1) then ((I b1 9) - (1 : Int32)) else (v2 + v1)).toInt64) kv0   (fun  I13 L14 w_I13 f_I13  => ?_)
      have q_I13 : FR Ws_X11_lamps Z I0 Z I13 := q_I.trans w0.1 w0.2.1 (f_I13.mono (by decide))
      have u15 : (I13 b1 9).toInt = (I b1 9).toInt := by rw [f_I13.2.2.1 b1 8 9 kb1 (by decide) (by decide)]
      intro x16 ex16
      have rx16 := i_rng x16
      first | (have tx16 : x16.toInt = (v2.toInt + (((2) * v1.toInt) + (1))) := by (rw [ex16]; exact (i_add rfl (i_add (i_mul (show (2 : Int32).toInt = 2 from rfl) rfl (by omega) (by omega)) (show (1 : Int32).toInt = 1 from rfl) (by omega) (by omega)) (by omega) (by omega)))) | (have tx16 : x16.toInt = (v2 + (((2 : Int32) * v1) + (1 : Int32))).toInt := by rw [ex16])
      exact ih x16 I13 L14 w_I13 q_I13   (by omega)  (by omega)
set_option maxHeartbeats 4000000 in
set_option maxRecDepth 100000 in
theorem s_X11_lamps {Z : jZ} {I : jI} {L : jL} (w_I : WD Z I) (v0 : Nat) (v1 : Int32) (kv0 : jk Z v0 11) {Q : Int32 → jI → jL → Prop} (hQ : ∀ (r : Int32) (I' : jI) (L' : jL), WD Z I' → FR Ws_X11_lamps Z I Z I' → Q r I' L') : f_X11_lamps v0 v1 Z I L Q := by
  unfold f_X11_lamps
  have q_I : FR Ws_X11_lamps Z I Z I := FR.rf
  have rv1 := i_rng v1
  refine ⟨fun c17 => ?_, fun c17 => ?_⟩
  · skip
    first | (have t18 : v1.toInt < (0) := (i_lt rfl (show (0 : Int32).toInt = 0 from rfl)).mp c17) | (have t18 : v1.toInt < (0 : Int32).toInt := (i_lt rfl rfl).mp c17) | skip
    have t19 : (-1 : Int32).toInt = -1 := rfl
    exact hQ (-1 : Int32) I L w_I q_I 
  · skip
    first | (have t20 : ¬ (v1.toInt < (0)) := (not_congr (i_lt rfl (show (0 : Int32).toInt = 0 from rfl))).mp c17) | (have t20 : ¬ (v1.toInt < (0 : Int32).toInt) := (not_congr (i_lt rfl rfl)).mp c17) | skip
    refine ⟨fun c21 => ?_, fun c21 => ?_⟩
    · skip
      first | (have t22 : (24) ≤ v1.toInt := (i_le (show (24 : Int32).toInt = 24 from rfl) rfl).mp c21) | (have t22 : (24 : Int32).toInt ≤ v1.toInt := (i_le rfl rfl).mp c21) | skip
      have t23 : (-1 : Int32).toInt = -1 := rfl
      exact hQ (-1 : Int32) I L w_I q_I 
    · skip
      first | (have t24 : ¬ ((24) ≤ v1.toInt) := (not_congr (i_le (show (24 : Int32).toInt = 24 from rfl) rfl)).mp c21) | (have t24 : ¬ ((24 : Int32).toInt ≤ v1.toInt) := (not_congr (i_le rfl rfl)).mp c21) | skip
      intro b25 eb25
      obtain ⟨x26, ex26, kb25⟩ := sh_o w_I.1 kv0 (j := 2) (k := 8) rfl
      cases eb25.symm.trans ex26
      have t28 : 0 ≤ (I b25 9).toInt ∧ (I b25 9).toInt ≤ 24 := w_I.fld 8 9 kb25 (by decide)
      refine ⟨fun c29 => ?_, fun c29 => ?_⟩
      · skip
        first | (have t30 : ¬ ((I b25 9).toInt = (0)) := (not_congr (i_eq rfl (show (0 : Int32).toInt = 0 from rfl))).mp c29) | (have t30 : ¬ ((I b25 9).toInt = (0 : Int32).toInt) := (not_congr (i_eq rfl rfl)).mp c29) | skip
        refine s_X11_tellNothing w_I v0 kv0   (fun  I31 L32 w_I31 f_I31  => ?_)
        have q_I31 : FR Ws_X11_lamps Z I Z I31 := q_I.trans w_I.1 w_I.2.1 (f_I31.mono (by decide))
        have u33 : (I31 b25 9).toInt = (I b25 9).toInt := by rw [f_I31.2.2.1 b25 8 9 kb25 (by decide) (by decide)]
        have t34 : (0 : Int32).toInt = 0 := rfl
        exact ⟨(70 - (0 : Int32).toInt).toNat + 1, l_X11_lamps_L28 w_I v0 v1 kv0   hQ   _ (0 : Int32) I31 L32 w_I31 q_I31   (by omega)  (by omega)⟩
      · skip
        first | (have t35 : (I b25 9).toInt = (0) := (i_eq rfl (show (0 : Int32).toInt = 0 from rfl)).mp c29) | (have t35 : (I b25 9).toInt = (0 : Int32).toInt := (i_eq rfl rfl).mp c29) | skip
        have t36 : (-1 : Int32).toInt = -1 := rfl
        exact hQ (-1 : Int32) I L w_I q_I 
set_option maxHeartbeats 4000000 in
set_option maxRecDepth 100000 in
theorem l_X11_mostPaid_L4 {Z : jZ} {I : jI} {L : jL} {Q : Int32 → jI → jL → Prop} (w_I : WD Z I) (v0 : Nat) (kv0 : jk Z v0 11) (hQ : ∀ (r : Int32), (0 ≤ r.toInt ∧ r.toInt ≤ 20) → Q r I L) : ∀ (n : Nat) (v1 : Int32) (v2 : Int32) ,   (0 ≤ v1.toInt ∧ v1.toInt ≤ 20 ∧ 1 ≤ v2.toInt ∧ v2.toInt ≤ 21) → 21 - v2.toInt < (n : Int) → f_X11_mostPaid_L4  Z Q n v0 v1 v2 I L := by
  intro n
  induction n with
  | zero =>
    intro v1 v2   li  me
    exfalso
    omega
  | succ n ih =>
    intro v1 v2   li  me
    unfold f_X11_mostPaid_L4
    have rv1 := i_rng v1
    have rv2 := i_rng v2
    refine ⟨fun c1 => ?_, fun c1 => ?_⟩
    · skip
      first | (have t2 : (20) < v2.toInt := (i_lt (show (20 : Int32).toInt = 20 from rfl) rfl).mp c1) | (have t2 : (20 : Int32).toInt < v2.toInt := (i_lt rfl rfl).mp c1) | skip
      exact hQ v1 (by omega)
    · skip
      first | (have t3 : ¬ ((20) < v2.toInt) := (not_congr (i_lt (show (20 : Int32).toInt = 20 from rfl) rfl)).mp c1) | (have t3 : ¬ ((20 : Int32).toInt < v2.toInt) := (not_congr (i_lt rfl rfl)).mp c1) | skip
      intro b4 eb4
      obtain ⟨x5, ex5, kb4, lb4⟩ := sh_f w_I.1 kv0 (j := 13) (k := 14) (m := 21) rfl
      cases eb4.symm.trans ex5
      have o6 : vp_in v2 21 := vi_of rfl (by omega) (by omega)
      refine ⟨o6, ?_⟩
      intro b7 eb7
      obtain rfl : b4 = b7 := Option.some.inj (eb4.symm.trans eb7)
      have o8 : vp_in v1 21 := vi_of rfl (by omega) (by omega)
      refine ⟨o8, ?_⟩
      refine ⟨fun c9 => ?_, fun c9 => ?_⟩
      · skip
        first | (have t10 : (I b4 v2.toNatClampNeg).toInt ≤ (I b4 v1.toNatClampNeg).toInt := (i_le rfl rfl).mp c9) | (have t10 : (I b4 v2.toNatClampNeg).toInt ≤ (I b4 v1.toNatClampNeg).toInt := (i_le rfl rfl).mp c9) | skip
        unfold f_X11_mostPaid_b30
        intro x11 ex11
        have rx11 := i_rng x11
        first | (have tx11 : x11.toInt = v2.toInt + (1) := by (rw [ex11]; exact (i_add rfl (show (1 : Int32).toInt = 1 from rfl) (by omega) (by omega)))) | skip
        exact ih v1 x11   (by omega)  (by omega)
      · skip
        first | (have t12 : ¬ ((I b4 v2.toNatClampNeg).toInt ≤ (I b4 v1.toNatClampNeg).toInt) := (not_congr (i_le rfl rfl)).mp c9) | (have t12 : ¬ ((I b4 v2.toNatClampNeg).toInt ≤ (I b4 v1.toNatClampNeg).toInt) := (not_congr (i_le rfl rfl)).mp c9) | skip
        unfold f_X11_mostPaid_b30
        intro x13 ex13
        have rx13 := i_rng x13
        first | (have tx13 : x13.toInt = v2.toInt + (1) := by (rw [ex13]; exact (i_add rfl (show (1 : Int32).toInt = 1 from rfl) (by omega) (by omega)))) | skip
        exact ih v2 x13   (by omega)  (by omega)
set_option maxHeartbeats 4000000 in
set_option maxRecDepth 100000 in
theorem s_X11_mostPaid {Z : jZ} {I : jI} {L : jL} (w_I : WD Z I) (v0 : Nat) (kv0 : jk Z v0 11) {Q : Int32 → jI → jL → Prop} (hQ : ∀ (r : Int32), (0 ≤ r.toInt ∧ r.toInt ≤ 20) → Q r I L) : f_X11_mostPaid v0 Z I L Q := by
  unfold f_X11_mostPaid
  have t14 : (0 : Int32).toInt = 0 := rfl
  have t15 : (1 : Int32).toInt = 1 := rfl
  exact ⟨(21 - (1 : Int32).toInt).toNat + 1, l_X11_mostPaid_L4 w_I v0 kv0   hQ   _ (0 : Int32) (1 : Int32)   (by omega)  (by omega)⟩
set_option maxHeartbeats 4000000 in
set_option maxRecDepth 100000 in
theorem s_X11_parts {Z : jZ} {I : jI} {L : jL} (w_I : WD Z I) (v0 : Nat) (v1 : Int32) (v2 : Int32) (kv0 : jk Z v0 11) {Q : Int32 → jI → jL → Prop} (hQ : ∀ (r : Int32), Q r I L) : f_X11_parts v0 v1 v2 Z I L Q := by
  unfold f_X11_parts
  have rv1 := i_rng v1
  have rv2 := i_rng v2
  intro b1 eb1
  obtain ⟨x2, ex2, kb1⟩ := sh_o w_I.1 kv0 (j := 2) (k := 8) rfl
  cases eb1.symm.trans ex2
  refine s_X8_has w_I b1 v1 kb1   (fun r3 p4 => ?_)
  have rr3 := i_rng r3
  refine ⟨fun c5 => ?_, fun c5 => ?_⟩
  · skip
    first | (have t6 : r3.toInt = (0) := (i_eq rfl (show (0 : Int32).toInt = 0 from rfl)).mp c5) | (have t6 : r3.toInt = (0 : Int32).toInt := (i_eq rfl rfl).mp c5) | skip
    have t7 : (-1 : Int32).toInt = -1 := rfl
    exact hQ (-1 : Int32) 
  · skip
    first | (have t8 : ¬ (r3.toInt = (0)) := (not_congr (i_eq rfl (show (0 : Int32).toInt = 0 from rfl))).mp c5) | (have t8 : ¬ (r3.toInt = (0 : Int32).toInt) := (not_congr (i_eq rfl rfl)).mp c5) | skip
    refine s_X11_isFamily w_I v2    (fun r9 p10 => ?_)
    have rr9 := i_rng r9
    refine ⟨fun c11 => ?_, fun c11 => ?_⟩
    · skip
      first | (have t12 : r9.toInt = (0) := (i_eq rfl (show (0 : Int32).toInt = 0 from rfl)).mp c11) | (have t12 : r9.toInt = (0 : Int32).toInt := (i_eq rfl rfl).mp c11) | skip
      have t13 : (-1 : Int32).toInt = -1 := rfl
      exact hQ (-1 : Int32) 
    · skip
      first | (have t14 : ¬ (r9.toInt = (0)) := (not_congr (i_eq rfl (show (0 : Int32).toInt = 0 from rfl))).mp c11) | (have t14 : ¬ (r9.toInt = (0 : Int32).toInt) := (not_congr (i_eq rfl rfl)).mp c11) | skip
      intro b15 eb15
      obtain rfl : b1 = b15 := Option.some.inj (eb1.symm.trans eb15)
      intro b16 eb16
      obtain ⟨x17, ex17, kb16⟩ := sh_o w_I.1 kb1 (j := 4) (k := 4) rfl
      cases eb16.symm.trans ex17
      refine s_X4_shareOf w_I b16 v1 v2 kb16   (fun r18  => ?_)
      have rr18 := i_rng r18
      exact hQ r18 
def Ws_X11_sells : List (Nat × Nat) := [(4, 0), (4, 1), (4, 2), (4, 3), (4, 4)]
set_option maxHeartbeats 4000000 in
set_option maxRecDepth 100000 in
theorem s_X11_sells {Z : jZ} {I : jI} {L : jL} (w_I : WD Z I) (v0 : Nat) (v1 : Int32) (v2 : Int32) (v3 : Int32) (v4 : Int32) (v5 : Int32) (kv0 : jk Z v0 11) {Q : Int32 → jI → jL → Prop} (hQ : ∀ (r : Int32) (I' : jI) (L' : jL), WD Z I' → FR Ws_X11_sells Z I Z I' → Q r I' L') : f_X11_sells v0 v1 v2 v3 v4 v5 Z I L Q := by
  unfold f_X11_sells
  have q_I : FR Ws_X11_sells Z I Z I := FR.rf
  have rv1 := i_rng v1
  have rv2 := i_rng v2
  have rv3 := i_rng v3
  have rv4 := i_rng v4
  have rv5 := i_rng v5
  intro b1 eb1
  obtain ⟨x2, ex2, kb1⟩ := sh_o w_I.1 kv0 (j := 2) (k := 8) rfl
  cases eb1.symm.trans ex2
  refine s_X8_has w_I b1 v1 kb1   (fun r3 p4 => ?_)
  have rr3 := i_rng r3
  refine ⟨fun c5 => ?_, fun c5 => ?_⟩
  · skip
    first | (have t6 : r3.toInt = (0) := (i_eq rfl (show (0 : Int32).toInt = 0 from rfl)).mp c5) | (have t6 : r3.toInt = (0 : Int32).toInt := (i_eq rfl rfl).mp c5) | skip
    have t7 : (-1 : Int32).toInt = -1 := rfl
    exact hQ (-1 : Int32) I L w_I q_I 
  · skip
    first | (have t8 : ¬ (r3.toInt = (0)) := (not_congr (i_eq rfl (show (0 : Int32).toInt = 0 from rfl))).mp c5) | (have t8 : ¬ (r3.toInt = (0 : Int32).toInt) := (not_congr (i_eq rfl rfl)).mp c5) | skip
    refine s_X11_isFamily w_I v2    (fun r9 p10 => ?_)
    have rr9 := i_rng r9
    refine ⟨fun c11 => ?_, fun c11 => ?_⟩
    · skip
      first | (have t12 : r9.toInt = (0) := (i_eq rfl (show (0 : Int32).toInt = 0 from rfl)).mp c11) | (have t12 : r9.toInt = (0 : Int32).toInt := (i_eq rfl rfl).mp c11) | skip
      have t13 : (-1 : Int32).toInt = -1 := rfl
      exact hQ (-1 : Int32) I L w_I q_I 
    · skip
      first | (have t14 : ¬ (r9.toInt = (0)) := (not_congr (i_eq rfl (show (0 : Int32).toInt = 0 from rfl))).mp c11) | (have t14 : ¬ (r9.toInt = (0 : Int32).toInt) := (not_congr (i_eq rfl rfl)).mp c11) | skip
      refine s_X11_isFamily w_I v3    (fun r15 p16 => ?_)
      have rr15 := i_rng r15
      refine ⟨fun c17 => ?_, fun c17 => ?_⟩
      · skip
        first | (have t18 : r15.toInt = (0) := (i_eq rfl (show (0 : Int32).toInt = 0 from rfl)).mp c17) | (have t18 : r15.toInt = (0 : Int32).toInt := (i_eq rfl rfl).mp c17) | skip
        have t19 : (-1 : Int32).toInt = -1 := rfl
        exact hQ (-1 : Int32) I L w_I q_I 
      · skip
        first | (have t20 : ¬ (r15.toInt = (0)) := (not_congr (i_eq rfl (show (0 : Int32).toInt = 0 from rfl))).mp c17) | (have t20 : ¬ (r15.toInt = (0 : Int32).toInt) := (not_congr (i_eq rfl rfl)).mp c17) | skip
        refine ⟨fun c21 => ?_, fun c21 => ?_⟩
        · skip
          first | (have t22 : ¬ (v2.toInt = v3.toInt) := (not_congr (i_eq rfl rfl)).mp c21) | (have t22 : ¬ (v2.toInt = v3.toInt) := (not_congr (i_eq rfl rfl)).mp c21) | skip
          refine ⟨fun c23 => ?_, fun c23 => ?_⟩
          · skip
            first | (have t24 : v4.toInt < (1) := (i_lt rfl (show (1 : Int32).toInt = 1 from rfl)).mp c23) | (have t24 : v4.toInt < (1 : Int32).toInt := (i_lt rfl rfl).mp c23) | skip
            have t25 : (-1 : Int32).toInt = -1 := rfl
            exact hQ (-1 : Int32) I L w_I q_I 
          · skip
            first | (have t26 : ¬ (v4.toInt < (1)) := (not_congr (i_lt rfl (show (1 : Int32).toInt = 1 from rfl))).mp c23) | (have t26 : ¬ (v4.toInt < (1 : Int32).toInt) := (not_congr (i_lt rfl rfl)).mp c23) | skip
            refine ⟨fun c27 => ?_, fun c27 => ?_⟩
            · skip
              first | (have t28 : (9) < v5.toInt := (i_lt (show (9 : Int32).toInt = 9 from rfl) rfl).mp c27) | (have t28 : (9 : Int32).toInt < v5.toInt := (i_lt rfl rfl).mp c27) | skip
              have t29 : (-1 : Int32).toInt = -1 := rfl
              exact hQ (-1 : Int32) I L w_I q_I 
            · skip
              first | (have t30 : ¬ ((9) < v5.toInt) := (not_congr (i_lt (show (9 : Int32).toInt = 9 from rfl) rfl)).mp c27) | (have t30 : ¬ ((9 : Int32).toInt < v5.toInt) := (not_congr (i_lt rfl rfl)).mp c27) | skip
              refine ⟨fun c31 => ?_, fun c31 => ?_⟩
              · skip
                first | (have t32 : v4.toInt ≤ v5.toInt := (i_le rfl rfl).mp c31) | (have t32 : v4.toInt ≤ v5.toInt := (i_le rfl rfl).mp c31) | skip
                intro b33 eb33
                obtain rfl : b1 = b33 := Option.some.inj (eb1.symm.trans eb33)
                intro b34 eb34
                obtain ⟨x35, ex35, kb34⟩ := sh_o w_I.1 kb1 (j := 4) (k := 4) rfl
                cases eb34.symm.trans ex35
                refine s_X4_shareOf w_I b34 v1 v2 kb34   (fun r36  => ?_)
                have rr36 := i_rng r36
                refine ⟨(not_congr (i_eq rfl (show (0 : Int32).toInt = 0 from rfl))).mpr (by omega), ?_⟩
                intro x37 ex37
                have rx37 := i_rng x37
                first | (have tx37 : x37.toInt = ((r36 * v4) / v5).toInt := by (rw [ex37]; exact rfl)) | (have tx37 : x37.toInt = ((r36 * v4) / v5).toInt := by rw [ex37])
                refine ⟨fun c38 => ?_, fun c38 => ?_⟩
                · skip
                  first | (have t39 : ¬ (x37.toInt = (0)) := (not_congr (i_eq rfl (show (0 : Int32).toInt = 0 from rfl))).mp c38) | (have t39 : ¬ (x37.toInt = (0 : Int32).toInt) := (not_congr (i_eq rfl rfl)).mp c38) | skip
                  intro b40 eb40
                  obtain rfl : b1 = b40 := Option.some.inj (eb1.symm.trans eb40)
                  intro b41 eb41
                  obtain rfl : b34 = b41 := Option.some.inj (eb34.symm.trans eb41)
                  refine s_X4_remember w_I b34 kb34   (fun  I42 L43 w_I42 f_I42  => ?_)
                  have q_I42 : FR Ws_X11_sells Z I Z I42 := q_I.trans w_I.1 w_I.2.1 (f_I42.mono (by decide))
                  intro b44 eb44
                  obtain rfl : b1 = b44 := Option.some.inj (eb1.symm.trans eb44)
                  intro b45 eb45
                  obtain rfl : b34 = b45 := Option.some.inj (eb34.symm.trans eb45)
                  refine s_X4_move w_I42 b34 v1 v2 v3 x37 kb34   (fun  I46 L47 w_I46 f_I46  => ?_)
                  have q_I46 : FR Ws_X11_sells Z I Z I46 := q_I42.trans w_I.1 w_I.2.1 (f_I46.mono (by decide))
                  exact hQ x37 I46 L47 w_I46 q_I46 
                · skip
                  first | (have t48 : x37.toInt = (0) := (i_eq rfl (show (0 : Int32).toInt = 0 from rfl)).mp c38) | (have t48 : x37.toInt = (0 : Int32).toInt := (i_eq rfl rfl).mp c38) | skip
                  have t49 : (-1 : Int32).toInt = -1 := rfl
                  exact hQ (-1 : Int32) I L w_I q_I 
              · skip
                first | (have t50 : ¬ (v4.toInt ≤ v5.toInt) := (not_congr (i_le rfl rfl)).mp c31) | (have t50 : ¬ (v4.toInt ≤ v5.toInt) := (not_congr (i_le rfl rfl)).mp c31) | skip
                have t51 : (-1 : Int32).toInt = -1 := rfl
                exact hQ (-1 : Int32) I L w_I q_I 
        · skip
          first | (have t52 : v2.toInt = v3.toInt := (i_eq rfl rfl).mp c21) | (have t52 : v2.toInt = v3.toInt := (i_eq rfl rfl).mp c21) | skip
          have t53 : (-1 : Int32).toInt = -1 := rfl
          exact hQ (-1 : Int32) I L w_I q_I 
def Ws_X11_dies : List (Nat × Nat) := [(4, 0), (4, 1), (4, 2), (4, 3), (4, 4)]
set_option maxHeartbeats 4000000 in
set_option maxRecDepth 100000 in
theorem l_X11_dies_L58 {Z : jZ} {I0 : jI} {Q : Int32 → jI → jL → Prop} (w0 : WD Z I0) (v0 : Nat) (v1 : Int32) (v2 : Int32) (kv0 : jk Z v0 11) (v3 : Int32) (hQ : ∀ (r : Int32) (I' : jI) (L' : jL), WD Z I' → FR Ws_X11_dies Z I0 Z I' → Q r I' L') : ∀ (n : Nat) (v4 : Int32) (I : jI) (L : jL), WD Z I → FR Ws_X11_dies Z I0 Z I →   (0 ≤ v4.toInt ∧ v4.toInt ≤ 24) → 24 - v4.toInt < (n : Int) → f_X11_dies_L58  Z Q n v0 v1 v2 v3 v4 I L := by
  intro n
  induction n with
  | zero =>
    intro v4 I L w_I q_I   li  me
    exfalso
    omega
  | succ n ih =>
    intro v4 I L w_I q_I   li  me
    unfold f_X11_dies_L58
    have rv4 := i_rng v4
    have rv3 := i_rng v3
    have rv1 := i_rng v1
    have rv2 := i_rng v2
    intro b1 eb1
    obtain ⟨x2, ex2, kb1⟩ := sh_o w_I.1 kv0 (j := 2) (k := 8) rfl
    cases eb1.symm.trans ex2
    have t4 : 0 ≤ (I b1 9).toInt ∧ (I b1 9).toInt ≤ 24 := w_I.fld 8 9 kb1 (by decide)
    refine ⟨fun c5 => ?_, fun c5 => ?_⟩
    · skip
      first | (have t6 : (I b1 9).toInt ≤ v4.toInt := (i_le rfl rfl).mp c5) | (have t6 : (I b1 9).toInt ≤ v4.toInt := (i_le rfl rfl).mp c5) | skip
      exact hQ v3 I L w_I q_I 
    · skip
      first | (have t7 : ¬ ((I b1 9).toInt ≤ v4.toInt) := (not_congr (i_le rfl rfl)).mp c5) | (have t7 : ¬ ((I b1 9).toInt ≤ v4.toInt) := (not_congr (i_le rfl rfl)).mp c5) | skip
      intro b8 eb8
      obtain rfl : b1 = b8 := Option.some.inj (eb1.symm.trans eb8)
      intro b9 eb9
      obtain ⟨x10, ex10, kb9⟩ := sh_o w_I.1 kb1 (j := 4) (k := 4) rfl
      cases eb9.symm.trans ex10
      refine s_X4_inherit w_I b9 v4 v1 v2 kb9   (fun  I11 L12 w_I11 f_I11  => ?_)
      have q_I11 : FR Ws_X11_dies Z I0 Z I11 := q_I.trans w0.1 w0.2.1 (f_I11.mono (by decide))
      have u13 : (I11 b1 9).toInt = (I b1 9).toInt := by rw [f_I11.2.2.1 b1 8 9 kb1 (by decide) (by decide)]
      intro x14 ex14
      have rx14 := i_rng x14
      first | (have tx14 : x14.toInt = v4.toInt + (1) := by (rw [ex14]; exact (i_add rfl (show (1 : Int32).toInt = 1 from rfl) (by omega) (by omega)))) | skip
      exact ih x14 I11 L12 w_I11 q_I11   (by omega)  (by omega)
set_option maxHeartbeats 4000000 in
set_option maxRecDepth 100000 in
theorem s_X11_dies {Z : jZ} {I : jI} {L : jL} (w_I : WD Z I) (v0 : Nat) (v1 : Int32) (v2 : Int32) (kv0 : jk Z v0 11) {Q : Int32 → jI → jL → Prop} (hQ : ∀ (r : Int32) (I' : jI) (L' : jL), WD Z I' → FR Ws_X11_dies Z I Z I' → Q r I' L') : f_X11_dies v0 v1 v2 Z I L Q := by
  unfold f_X11_dies
  have q_I : FR Ws_X11_dies Z I Z I := FR.rf
  have rv1 := i_rng v1
  have rv2 := i_rng v2
  refine s_X11_isFamily w_I v1    (fun r15 p16 => ?_)
  have rr15 := i_rng r15
  refine ⟨fun c17 => ?_, fun c17 => ?_⟩
  · skip
    first | (have t18 : r15.toInt = (0) := (i_eq rfl (show (0 : Int32).toInt = 0 from rfl)).mp c17) | (have t18 : r15.toInt = (0 : Int32).toInt := (i_eq rfl rfl).mp c17) | skip
    have t19 : (-1 : Int32).toInt = -1 := rfl
    exact hQ (-1 : Int32) I L w_I q_I 
  · skip
    first | (have t20 : ¬ (r15.toInt = (0)) := (not_congr (i_eq rfl (show (0 : Int32).toInt = 0 from rfl))).mp c17) | (have t20 : ¬ (r15.toInt = (0 : Int32).toInt) := (not_congr (i_eq rfl rfl)).mp c17) | skip
    refine ⟨fun c21 => ?_, fun c21 => ?_⟩
    · skip
      first | (have t22 : v2.toInt < (1) := (i_lt rfl (show (1 : Int32).toInt = 1 from rfl)).mp c21) | (have t22 : v2.toInt < (1 : Int32).toInt := (i_lt rfl rfl).mp c21) | skip
      have t23 : (-1 : Int32).toInt = -1 := rfl
      exact hQ (-1 : Int32) I L w_I q_I 
    · skip
      first | (have t24 : ¬ (v2.toInt < (1)) := (not_congr (i_lt rfl (show (1 : Int32).toInt = 1 from rfl))).mp c21) | (have t24 : ¬ (v2.toInt < (1 : Int32).toInt) := (not_congr (i_lt rfl rfl)).mp c21) | skip
      refine ⟨fun c25 => ?_, fun c25 => ?_⟩
      · skip
        first | (have t26 : (255) < v2.toInt := (i_lt (show (255 : Int32).toInt = 255 from rfl) rfl).mp c25) | (have t26 : (255 : Int32).toInt < v2.toInt := (i_lt rfl rfl).mp c25) | skip
        have t27 : (-1 : Int32).toInt = -1 := rfl
        exact hQ (-1 : Int32) I L w_I q_I 
      · skip
        first | (have t28 : ¬ ((255) < v2.toInt) := (not_congr (i_lt (show (255 : Int32).toInt = 255 from rfl) rfl)).mp c25) | (have t28 : ¬ ((255 : Int32).toInt < v2.toInt) := (not_congr (i_lt rfl rfl)).mp c25) | skip
        have t29 : 0 ≤ ((v2 >>> (v1 &&& 31)) &&& (1 : Int32)).toInt ∧ ((v2 >>> (v1 &&& 31)) &&& (1 : Int32)).toInt < 2 ^ 1 := i_and (n := 1) (by decide)
        refine ⟨fun c30 => ?_, fun c30 => ?_⟩
        · skip
          first | (have t31 : ((v2 >>> (v1 &&& 31)) &&& (1 : Int32)).toInt = (0) := (i_eq rfl (show (0 : Int32).toInt = 0 from rfl)).mp c30) | (have t31 : ((v2 >>> (v1 &&& 31)) &&& (1 : Int32)).toInt = (0 : Int32).toInt := (i_eq rfl rfl).mp c30) | skip
          intro b32 eb32
          obtain ⟨x33, ex33, kb32⟩ := sh_o w_I.1 kv0 (j := 2) (k := 8) rfl
          cases eb32.symm.trans ex33
          intro b34 eb34
          obtain ⟨x35, ex35, kb34⟩ := sh_o w_I.1 kb32 (j := 4) (k := 4) rfl
          cases eb34.symm.trans ex35
          refine s_X4_sumOf w_I b34 v1 kb34   (fun r36  => ?_)
          have rr36 := i_rng r36
          refine ⟨fun c37 => ?_, fun c37 => ?_⟩
          · skip
            first | (have t38 : r36.toInt ≤ (0) := (i_le rfl (show (0 : Int32).toInt = 0 from rfl)).mp c37) | (have t38 : r36.toInt ≤ (0 : Int32).toInt := (i_le rfl rfl).mp c37) | skip
            exact hQ r36 I L w_I q_I 
          · skip
            first | (have t39 : ¬ (r36.toInt ≤ (0)) := (not_congr (i_le rfl (show (0 : Int32).toInt = 0 from rfl))).mp c37) | (have t39 : ¬ (r36.toInt ≤ (0 : Int32).toInt) := (not_congr (i_le rfl rfl)).mp c37) | skip
            intro b40 eb40
            obtain rfl : b32 = b40 := Option.some.inj (eb32.symm.trans eb40)
            intro b41 eb41
            obtain rfl : b34 = b41 := Option.some.inj (eb34.symm.trans eb41)
            refine s_X4_remember w_I b34 kb34   (fun  I42 L43 w_I42 f_I42  => ?_)
            have q_I42 : FR Ws_X11_dies Z I Z I42 := q_I.trans w_I.1 w_I.2.1 (f_I42.mono (by decide))
            have t44 : (0 : Int32).toInt = 0 := rfl
            exact ⟨(24 - (0 : Int32).toInt).toNat + 1, l_X11_dies_L58 w_I v0 v1 v2 kv0 r36  hQ   _ (0 : Int32) I42 L43 w_I42 q_I42   (by omega)  (by omega)⟩
        · skip
          first | (have t45 : ¬ (((v2 >>> (v1 &&& 31)) &&& (1 : Int32)).toInt = (0)) := (not_congr (i_eq rfl (show (0 : Int32).toInt = 0 from rfl))).mp c30) | (have t45 : ¬ (((v2 >>> (v1 &&& 31)) &&& (1 : Int32)).toInt = (0 : Int32).toInt) := (not_congr (i_eq rfl rfl)).mp c30) | skip
          have t46 : (-1 : Int32).toInt = -1 := rfl
          exact hQ (-1 : Int32) I L w_I q_I 
def Ws_X11_undo : List (Nat × Nat) := [(4, 0), (4, 1), (4, 4)]
set_option maxHeartbeats 4000000 in
set_option maxRecDepth 100000 in
theorem s_X11_undo {Z : jZ} {I : jI} {L : jL} (w_I : WD Z I) (v0 : Nat) (kv0 : jk Z v0 11) {Q : Int32 → jI → jL → Prop} (hQ : ∀ (r : Int32) (I' : jI) (L' : jL), WD Z I' → FR Ws_X11_undo Z I Z I' → Q r I' L') : f_X11_undo v0 Z I L Q := by
  unfold f_X11_undo
  have q_I : FR Ws_X11_undo Z I Z I := FR.rf
  intro b1 eb1
  obtain ⟨x2, ex2, kb1⟩ := sh_o w_I.1 kv0 (j := 2) (k := 8) rfl
  cases eb1.symm.trans ex2
  intro b3 eb3
  obtain ⟨x4, ex4, kb3⟩ := sh_o w_I.1 kb1 (j := 4) (k := 4) rfl
  cases eb3.symm.trans ex4
  refine s_X4_takeBack w_I b3 kb3   (fun r5 I6 L7 w_I6 f_I6  => ?_)
  have q_I6 : FR Ws_X11_undo Z I Z I6 := q_I.trans w_I.1 w_I.2.1 (f_I6.mono (by decide))
  have rr5 := i_rng r5
  refine ⟨fun c8 => ?_, fun c8 => ?_⟩
  · skip
    first | (have t9 : r5.toInt = (0) := (i_eq rfl (show (0 : Int32).toInt = 0 from rfl)).mp c8) | (have t9 : r5.toInt = (0 : Int32).toInt := (i_eq rfl rfl).mp c8) | skip
    have t10 : (-1 : Int32).toInt = -1 := rfl
    exact hQ (-1 : Int32) I6 L7 w_I6 q_I6 
  · skip
    first | (have t11 : ¬ (r5.toInt = (0)) := (not_congr (i_eq rfl (show (0 : Int32).toInt = 0 from rfl))).mp c8) | (have t11 : ¬ (r5.toInt = (0 : Int32).toInt) := (not_congr (i_eq rfl rfl)).mp c8) | skip
    intro b12 eb12
    obtain rfl : b1 = b12 := Option.some.inj (eb1.symm.trans eb12)
    intro b13 eb13
    obtain rfl : b3 = b13 := Option.some.inj (eb3.symm.trans eb13)
    have t15 : 0 ≤ (I6 b3 4).toInt ∧ (I6 b3 4).toInt ≤ 8 := w_I6.fld 4 4 kb3 (by decide)
    exact hQ (I6 b3 4) I6 L7 w_I6 q_I6 
def Ws_X11_rail : List (Nat × Nat) := [(11, 6), (11, 7), (11, 16)]
set_option maxHeartbeats 4000000 in
set_option maxRecDepth 100000 in
theorem l_X11_rail_L61 {Z : jZ} {I0 : jI} {Q : Int32 → jI → jL → Prop} (w0 : WD Z I0) (v0 : Nat) (v1 : Int32) (kv0 : jk Z v0 11) (hQ : ∀ (r : Int32) (I' : jI) (L' : jL), WD Z I' → FR Ws_X11_rail Z I0 Z I' → Q r I' L') : ∀ (n : Nat) (v2 : Int32) (v3 : Int32) (I : jI) (L : jL), WD Z I → FR Ws_X11_rail Z I0 Z I →   (0 ≤ v3.toInt ∧ v3.toInt ≤ 8) → 8 - v3.toInt < (n : Int) → f_X11_rail_L61  Z Q n v0 v2 v3 I L := by
  intro n
  induction n with
  | zero =>
    intro v2 v3 I L w_I q_I   li  me
    exfalso
    omega
  | succ n ih =>
    intro v2 v3 I L w_I q_I   li  me
    unfold f_X11_rail_L61
    have rv2 := i_rng v2
    have rv3 := i_rng v3
    have rv1 := i_rng v1
    refine ⟨fun c1 => ?_, fun c1 => ?_⟩
    · skip
      first | (have t2 : (8) ≤ v3.toInt := (i_le (show (8 : Int32).toInt = 8 from rfl) rfl).mp c1) | (have t2 : (8 : Int32).toInt ≤ v3.toInt := (i_le rfl rfl).mp c1) | skip
      exact hQ v2 I L w_I q_I 
    · skip
      first | (have t3 : ¬ ((8) ≤ v3.toInt) := (not_congr (i_le (show (8 : Int32).toInt = 8 from rfl) rfl)).mp c1) | (have t3 : ¬ ((8 : Int32).toInt ≤ v3.toInt) := (not_congr (i_le rfl rfl)).mp c1) | skip
      intro b4 eb4
      obtain ⟨x5, ex5, kb4, lb4⟩ := sh_f w_I.1 kv0 (j := 6) (k := 14) (m := 8) rfl
      cases eb4.symm.trans ex5
      have o6 : vp_in v3 8 := vi_of rfl (by omega) (by omega)
      refine ⟨o6, ?_⟩
      refine s_X11_tellMore w_I v0 ((I b4 v3.toNatClampNeg).toInt64) kv0   (fun  I7 L8 w_I7 f_I7  => ?_)
      have q_I7 : FR Ws_X11_rail Z I0 Z I7 := q_I.trans w0.1 w0.2.1 (f_I7.mono (by decide))
      intro b9 eb9
      obtain rfl : b4 = b9 := Option.some.inj (eb4.symm.trans eb9)
      have o10 : vp_in v3 8 := vi_of rfl (by omega) (by omega)
      refine ⟨o10, ?_⟩
      refine ⟨fun c11 => ?_, fun c11 => ?_⟩
      · skip
        first | (have t12 : (I7 b4 v3.toNatClampNeg).toInt ≤ (0) := (i_le rfl (show (0 : Int32).toInt = 0 from rfl)).mp c11) | (have t12 : (I7 b4 v3.toNatClampNeg).toInt ≤ (0 : Int32).toInt := (i_le rfl rfl).mp c11) | skip
        unfold f_X11_rail_b93
        intro x13 ex13
        have rx13 := i_rng x13
        first | (have tx13 : x13.toInt = (v2.toInt + (0)) := by (rw [ex13]; exact (i_add rfl (show (0 : Int32).toInt = 0 from rfl) (by omega) (by omega)))) | (have tx13 : x13.toInt = (v2 + (0 : Int32)).toInt := by rw [ex13])
        intro x14 ex14
        have rx14 := i_rng x14
        first | (have tx14 : x14.toInt = v3.toInt + (1) := by (rw [ex14]; exact (i_add rfl (show (1 : Int32).toInt = 1 from rfl) (by omega) (by omega)))) | skip
        exact ih x13 x14 I7 L8 w_I7 q_I7   (by omega)  (by omega)
      · skip
        first | (have t15 : ¬ ((I7 b4 v3.toNatClampNeg).toInt ≤ (0)) := (not_congr (i_le rfl (show (0 : Int32).toInt = 0 from rfl))).mp c11) | (have t15 : ¬ ((I7 b4 v3.toNatClampNeg).toInt ≤ (0 : Int32).toInt) := (not_congr (i_le rfl rfl)).mp c11) | skip
        unfold f_X11_rail_b93
        intro x16 ex16
        have rx16 := i_rng x16
        first | (have tx16 : x16.toInt = (v2.toInt + (1)) := by (rw [ex16]; exact (i_add rfl (show (1 : Int32).toInt = 1 from rfl) (by omega) (by omega)))) | (have tx16 : x16.toInt = (v2 + (1 : Int32)).toInt := by rw [ex16])
        intro x17 ex17
        have rx17 := i_rng x17
        first | (have tx17 : x17.toInt = v3.toInt + (1) := by (rw [ex17]; exact (i_add rfl (show (1 : Int32).toInt = 1 from rfl) (by omega) (by omega)))) | skip
        exact ih x16 x17 I7 L8 w_I7 q_I7   (by omega)  (by omega)
set_option maxHeartbeats 4000000 in
set_option maxRecDepth 100000 in
theorem s_X11_rail {Z : jZ} {I : jI} {L : jL} (w_I : WD Z I) (v0 : Nat) (v1 : Int32) (kv0 : jk Z v0 11) {Q : Int32 → jI → jL → Prop} (hQ : ∀ (r : Int32) (I' : jI) (L' : jL), WD Z I' → FR Ws_X11_rail Z I Z I' → Q r I' L') : f_X11_rail v0 v1 Z I L Q := by
  unfold f_X11_rail
  have q_I : FR Ws_X11_rail Z I Z I := FR.rf
  have rv1 := i_rng v1
  refine ⟨fun c18 => ?_, fun c18 => ?_⟩
  · skip
    first | (have t19 : v1.toInt < (0) := (i_lt rfl (show (0 : Int32).toInt = 0 from rfl)).mp c18) | (have t19 : v1.toInt < (0 : Int32).toInt := (i_lt rfl rfl).mp c18) | skip
    have t20 : (-1 : Int32).toInt = -1 := rfl
    exact hQ (-1 : Int32) I L w_I q_I 
  · skip
    first | (have t21 : ¬ (v1.toInt < (0)) := (not_congr (i_lt rfl (show (0 : Int32).toInt = 0 from rfl))).mp c18) | (have t21 : ¬ (v1.toInt < (0 : Int32).toInt) := (not_congr (i_lt rfl rfl)).mp c18) | skip
    refine ⟨fun c22 => ?_, fun c22 => ?_⟩
    · skip
      first | (have t23 : (9999) < v1.toInt := (i_lt (show (9999 : Int32).toInt = 9999 from rfl) rfl).mp c22) | (have t23 : (9999 : Int32).toInt < v1.toInt := (i_lt rfl rfl).mp c22) | skip
      have t24 : (-1 : Int32).toInt = -1 := rfl
      exact hQ (-1 : Int32) I L w_I q_I 
    · skip
      first | (have t25 : ¬ ((9999) < v1.toInt) := (not_congr (i_lt (show (9999 : Int32).toInt = 9999 from rfl) rfl)).mp c22) | (have t25 : ¬ ((9999 : Int32).toInt < v1.toInt) := (not_congr (i_lt rfl rfl)).mp c22) | skip
      intro b26 eb26
      obtain ⟨x27, ex27, kb26⟩ := sh_o w_I.1 kv0 (j := 2) (k := 8) rfl
      cases eb26.symm.trans ex27
      have t29 : 0 ≤ (I b26 9).toInt ∧ (I b26 9).toInt ≤ 24 := w_I.fld 8 9 kb26 (by decide)
      refine ⟨fun c30 => ?_, fun c30 => ?_⟩
      · skip
        first | (have t31 : ¬ ((I b26 9).toInt = (0)) := (not_congr (i_eq rfl (show (0 : Int32).toInt = 0 from rfl))).mp c30) | (have t31 : ¬ ((I b26 9).toInt = (0 : Int32).toInt) := (not_congr (i_eq rfl rfl)).mp c30) | skip
        intro b32 eb32
        obtain rfl : b26 = b32 := Option.some.inj (eb26.symm.trans eb32)
        intro b33 eb33
        obtain ⟨x34, ex34, kb33⟩ := sh_o w_I.1 kb26 (j := 4) (k := 4) rfl
        cases eb33.symm.trans ex34
        intro b35 eb35
        obtain ⟨x36, ex36, kb35, lb35⟩ := sh_f w_I.1 kv0 (j := 6) (k := 14) (m := 8) rfl
        cases eb35.symm.trans ex36
        refine s_X4_sumInto w_I b33 b35 kb33 kb35 v0 11 6 kv0 eb35 (by decide) rfl (by omega) (by intro i v; first | trivial | exact p1 i v) (fun  I37 L38 w_I37 f_I37  => ?_)
        have q_I37 : FR Ws_X11_rail Z I Z I37 := q_I.trans w_I.1 w_I.2.1 (f_I37.mono (by first | decide | (intro p hp; simp at hp ⊢; omega) | simp))
        intro b39 eb39
        obtain rfl : b26 = b39 := Option.some.inj (eb26.symm.trans eb39)
        have t41 : 0 ≤ (I37 b26 9).toInt ∧ (I37 b26 9).toInt ≤ 24 := w_I37.fld 8 9 kb26 (by decide)
        try (have t42 : ((720 : Int32) * (I37 b26 9)).toInt = ((720) * (I37 b26 9).toInt) := (i_mul (show (720 : Int32).toInt = 720 from rfl) rfl (by omega) (by omega)))
        refine s_X11_divide w_I37 v0 v1 ((720 : Int32) * (I37 b26 9)) kv0   (fun  I43 L44 w_I43 f_I43  => ?_)
        have q_I43 : FR Ws_X11_rail Z I Z I43 := q_I37.trans w_I.1 w_I.2.1 (f_I43.mono (by decide))
        have u45 : (I43 b26 9).toInt = (I37 b26 9).toInt := by rw [f_I43.2.2.1 b26 8 9 kb26 (by decide) (by decide)]
        refine s_X11_tellNothing w_I43 v0 kv0   (fun  I46 L47 w_I46 f_I46  => ?_)
        have q_I46 : FR Ws_X11_rail Z I Z I46 := q_I43.trans w_I.1 w_I.2.1 (f_I46.mono (by decide))
        have u48 : (I46 b26 9).toInt = (I43 b26 9).toInt := by rw [f_I46.2.2.1 b26 8 9 kb26 (by decide) (by decide)]
        have t49 : (0 : Int32).toInt = 0 := rfl
        have t50 : (0 : Int32).toInt = 0 := rfl
        exact ⟨(8 - (0 : Int32).toInt).toNat + 1, l_X11_rail_L61 w_I v0 v1 kv0   hQ   _ (0 : Int32) (0 : Int32) I46 L47 w_I46 q_I46   (by omega)  (by omega)⟩
      · skip
        first | (have t51 : (I b26 9).toInt = (0) := (i_eq rfl (show (0 : Int32).toInt = 0 from rfl)).mp c30) | (have t51 : (I b26 9).toInt = (0 : Int32).toInt := (i_eq rfl rfl).mp c30) | skip
        have t52 : (-1 : Int32).toInt = -1 := rfl
        exact hQ (-1 : Int32) I L w_I q_I 
set_option maxHeartbeats 4000000 in
set_option maxRecDepth 100000 in
theorem l_X11_fewestOver_L19 {Z : jZ} {I : jI} {L : jL} {Q : Int32 → jI → jL → Prop} (w_I : WD Z I) (v0 : Nat) (v1 : Int32) (kv0 : jk Z v0 11) (v2 : Int32) (v3 : Int32) (hQ : ∀ (r : Int32), Q r I L) {K6 : Nat → Int32 → Int32 → Int32 → jI → jL → Prop} {N6 : Int} (hK6 : ∀ (v2 : Int32) (v3 : Int32),   (1 ≤ v3.toInt ∧ v3.toInt ≤ 255) → 255 - v3.toInt < N6 → K6 v0 v1 v2 v3 I L) : ∀ (n : Nat) (v4 : Int32) (v5 : Int32) ,   (1 ≤ v3.toInt ∧ v3.toInt ≤ 254 ∧ 0 ≤ v5.toInt ∧ v5.toInt ≤ 8) → 255 - v3.toInt ≤ N6 → 8 - v5.toInt < (n : Int) → f_X11_fewestOver_L19 K6 Z Q n v0 v1 v2 v3 v4 v5 I L := by
  intro n
  induction n with
  | zero =>
    intro v4 v5   li hm6 me
    exfalso
    omega
  | succ n ih =>
    intro v4 v5   li hm6 me
    unfold f_X11_fewestOver_L19
    have rv4 := i_rng v4
    have rv5 := i_rng v5
    have rv2 := i_rng v2
    have rv3 := i_rng v3
    have rv1 := i_rng v1
    refine ⟨fun c1 => ?_, fun c1 => ?_⟩
    · skip
      first | (have t2 : (8) ≤ v5.toInt := (i_le (show (8 : Int32).toInt = 8 from rfl) rfl).mp c1) | (have t2 : (8 : Int32).toInt ≤ v5.toInt := (i_le rfl rfl).mp c1) | skip
      refine ⟨fun c3 => ?_, fun c3 => ?_⟩
      · skip
        first | (have t4 : ((2) * v4.toInt) ≤ v1.toInt := (i_le (i_mul (show (2 : Int32).toInt = 2 from rfl) rfl (by omega) (by omega)) rfl).mp c3) | (have t4 : ((2 : Int32) * v4).toInt ≤ v1.toInt := (i_le rfl rfl).mp c3) | skip
        unfold f_X11_fewestOver_b72
        intro x5 ex5
        have rx5 := i_rng x5
        first | (have tx5 : x5.toInt = v3.toInt + (1) := by (rw [ex5]; exact (i_add rfl (show (1 : Int32).toInt = 1 from rfl) (by omega) (by omega)))) | skip
        exact hK6 v2 x5   (by omega)  (by omega)
      · skip
        first | (have t6 : ¬ (((2) * v4.toInt) ≤ v1.toInt) := (not_congr (i_le (i_mul (show (2 : Int32).toInt = 2 from rfl) rfl (by omega) (by omega)) rfl)).mp c3) | (have t6 : ¬ (((2 : Int32) * v4).toInt ≤ v1.toInt) := (not_congr (i_le rfl rfl)).mp c3) | skip
        refine s_J6_bitCount_0f7a4 w_I v3    (fun r7 p8 => ?_)
        have rr7 := i_rng r7
        refine s_J6_bitCount_0f7a4 w_I v2    (fun r9 p10 => ?_)
        have rr9 := i_rng r9
        refine ⟨fun c11 => ?_, fun c11 => ?_⟩
        · skip
          first | (have t12 : r9.toInt ≤ r7.toInt := (i_le rfl rfl).mp c11) | (have t12 : r9.toInt ≤ r7.toInt := (i_le rfl rfl).mp c11) | skip
          unfold f_X11_fewestOver_b72
          intro x13 ex13
          have rx13 := i_rng x13
          first | (have tx13 : x13.toInt = v3.toInt + (1) := by (rw [ex13]; exact (i_add rfl (show (1 : Int32).toInt = 1 from rfl) (by omega) (by omega)))) | skip
          exact hK6 v2 x13   (by omega)  (by omega)
        · skip
          first | (have t14 : ¬ (r9.toInt ≤ r7.toInt) := (not_congr (i_le rfl rfl)).mp c11) | (have t14 : ¬ (r9.toInt ≤ r7.toInt) := (not_congr (i_le rfl rfl)).mp c11) | skip
          unfold f_X11_fewestOver_b72
          intro x15 ex15
          have rx15 := i_rng x15
          first | (have tx15 : x15.toInt = v3.toInt + (1) := by (rw [ex15]; exact (i_add rfl (show (1 : Int32).toInt = 1 from rfl) (by omega) (by omega)))) | skip
          exact hK6 v3 x15   (by omega)  (by omega)
    · skip
      first | (have t16 : ¬ ((8) ≤ v5.toInt) := (not_congr (i_le (show (8 : Int32).toInt = 8 from rfl) rfl)).mp c1) | (have t16 : ¬ ((8 : Int32).toInt ≤ v5.toInt) := (not_congr (i_le rfl rfl)).mp c1) | skip
      have t17 : 0 ≤ ((v3 >>> (v5 &&& 31)) &&& (1 : Int32)).toInt ∧ ((v3 >>> (v5 &&& 31)) &&& (1 : Int32)).toInt < 2 ^ 1 := i_and (n := 1) (by decide)
      intro b18 eb18
      obtain ⟨x19, ex19, kb18, lb18⟩ := sh_f w_I.1 kv0 (j := 6) (k := 14) (m := 8) rfl
      cases eb18.symm.trans ex19
      have o20 : vp_in v5 8 := vi_of rfl (by omega) (by omega)
      refine ⟨o20, ?_⟩
      intro x21 ex21
      have rx21 := i_rng x21
      first | (have tx21 : x21.toInt = (v4.toInt + (((v3 >>> (v5 &&& 31)) &&& (1 : Int32)) * (I b18 v5.toNatClampNeg)).toInt) := by (rw [ex21]; exact (i_add rfl rfl (by omega) (by omega)))) | (have tx21 : x21.toInt = (v4 + (((v3 >>> (v5 &&& 31)) &&& (1 : Int32)) * (I b18 v5.toNatClampNeg))).toInt := by rw [ex21])
      intro x22 ex22
      have rx22 := i_rng x22
      first | (have tx22 : x22.toInt = v5.toInt + (1) := by (rw [ex22]; exact (i_add rfl (show (1 : Int32).toInt = 1 from rfl) (by omega) (by omega)))) | skip
      exact ih x21 x22   (by omega) (by omega) (by omega)
set_option maxHeartbeats 4000000 in
set_option maxRecDepth 100000 in
theorem l_X11_fewestOver_L6 {Z : jZ} {I : jI} {L : jL} {Q : Int32 → jI → jL → Prop} (w_I : WD Z I) (v0 : Nat) (v1 : Int32) (kv0 : jk Z v0 11) (hQ : ∀ (r : Int32), Q r I L) : ∀ (n : Nat) (v2 : Int32) (v3 : Int32) ,   (1 ≤ v3.toInt ∧ v3.toInt ≤ 255) → 255 - v3.toInt < (n : Int) → f_X11_fewestOver_L6  Z Q n v0 v1 v2 v3 I L := by
  intro n
  induction n with
  | zero =>
    intro v2 v3   li  me
    exfalso
    omega
  | succ n ih =>
    intro v2 v3   li  me
    unfold f_X11_fewestOver_L6
    have rv2 := i_rng v2
    have rv3 := i_rng v3
    have rv1 := i_rng v1
    refine ⟨fun c23 => ?_, fun c23 => ?_⟩
    · skip
      first | (have t24 : (255) ≤ v3.toInt := (i_le (show (255 : Int32).toInt = 255 from rfl) rfl).mp c23) | (have t24 : (255 : Int32).toInt ≤ v3.toInt := (i_le rfl rfl).mp c23) | skip
      exact hQ v2 
    · skip
      first | (have t25 : ¬ ((255) ≤ v3.toInt) := (not_congr (i_le (show (255 : Int32).toInt = 255 from rfl) rfl)).mp c23) | (have t25 : ¬ ((255 : Int32).toInt ≤ v3.toInt) := (not_congr (i_le rfl rfl)).mp c23) | skip
      have t26 : (0 : Int32).toInt = 0 := rfl
      have t27 : (0 : Int32).toInt = 0 := rfl
      exact ⟨(8 - (0 : Int32).toInt).toNat + 1, l_X11_fewestOver_L19 w_I v0 v1 kv0 v2 v3  hQ ih  _ (0 : Int32) (0 : Int32)   (by omega) (by omega) (by omega)⟩
set_option maxHeartbeats 4000000 in
set_option maxRecDepth 100000 in
theorem s_X11_fewestOver {Z : jZ} {I : jI} {L : jL} (w_I : WD Z I) (v0 : Nat) (v1 : Int32) (kv0 : jk Z v0 11) {Q : Int32 → jI → jL → Prop} (hQ : ∀ (r : Int32), Q r I L) : f_X11_fewestOver v0 v1 Z I L Q := by
  unfold f_X11_fewestOver
  have rv1 := i_rng v1
  have t28 : (255 : Int32).toInt = 255 := rfl
  have t29 : (1 : Int32).toInt = 1 := rfl
  exact ⟨(255 - (1 : Int32).toInt).toNat + 1, l_X11_fewestOver_L6 w_I v0 v1 kv0   hQ   _ (255 : Int32) (1 : Int32)   (by omega)  (by omega)⟩
def Ws_X11_rules : List (Nat × Nat) := [(11, 6), (11, 16)]
set_option maxHeartbeats 4000000 in
set_option maxRecDepth 100000 in
theorem s_X11_rules {Z : jZ} {I : jI} {L : jL} (w_I : WD Z I) (v0 : Nat) (v1 : Int32) (v2 : Int32) (kv0 : jk Z v0 11) {Q : Int32 → jI → jL → Prop} (hQ : ∀ (r : Int32) (I' : jI) (L' : jL), WD Z I' → FR Ws_X11_rules Z I Z I' → Q r I' L') : f_X11_rules v0 v1 v2 Z I L Q := by
  unfold f_X11_rules
  have q_I : FR Ws_X11_rules Z I Z I := FR.rf
  have rv1 := i_rng v1
  have rv2 := i_rng v2
  refine ⟨fun c1 => ?_, fun c1 => ?_⟩
  · skip
    first | (have t2 : v1.toInt < (0) := (i_lt rfl (show (0 : Int32).toInt = 0 from rfl)).mp c1) | (have t2 : v1.toInt < (0 : Int32).toInt := (i_lt rfl rfl).mp c1) | skip
    have t3 : (-1 : Int32).toInt = -1 := rfl
    exact hQ (-1 : Int32) I L w_I q_I 
  · skip
    first | (have t4 : ¬ (v1.toInt < (0)) := (not_congr (i_lt rfl (show (0 : Int32).toInt = 0 from rfl))).mp c1) | (have t4 : ¬ (v1.toInt < (0 : Int32).toInt) := (not_congr (i_lt rfl rfl)).mp c1) | skip
    refine ⟨fun c5 => ?_, fun c5 => ?_⟩
    · skip
      first | (have t6 : (1) < v1.toInt := (i_lt (show (1 : Int32).toInt = 1 from rfl) rfl).mp c5) | (have t6 : (1 : Int32).toInt < v1.toInt := (i_lt rfl rfl).mp c5) | skip
      have t7 : (-1 : Int32).toInt = -1 := rfl
      exact hQ (-1 : Int32) I L w_I q_I 
    · skip
      first | (have t8 : ¬ ((1) < v1.toInt) := (not_congr (i_lt (show (1 : Int32).toInt = 1 from rfl) rfl)).mp c5) | (have t8 : ¬ ((1 : Int32).toInt < v1.toInt) := (not_congr (i_lt rfl rfl)).mp c5) | skip
      intro b9 eb9
      obtain ⟨x10, ex10, kb9⟩ := sh_o w_I.1 kv0 (j := 2) (k := 8) rfl
      cases eb9.symm.trans ex10
      have t12 : 0 ≤ (I b9 9).toInt ∧ (I b9 9).toInt ≤ 24 := w_I.fld 8 9 kb9 (by decide)
      refine ⟨fun c13 => ?_, fun c13 => ?_⟩
      · skip
        first | (have t14 : (I b9 9).toInt = (0) := (i_eq rfl (show (0 : Int32).toInt = 0 from rfl)).mp c13) | (have t14 : (I b9 9).toInt = (0 : Int32).toInt := (i_eq rfl rfl).mp c13) | skip
        have t15 : (-1 : Int32).toInt = -1 := rfl
        exact hQ (-1 : Int32) I L w_I q_I 
      · skip
        first | (have t16 : ¬ ((I b9 9).toInt = (0)) := (not_congr (i_eq rfl (show (0 : Int32).toInt = 0 from rfl))).mp c13) | (have t16 : ¬ ((I b9 9).toInt = (0 : Int32).toInt) := (not_congr (i_eq rfl rfl)).mp c13) | skip
        refine ⟨fun c17 => ?_, fun c17 => ?_⟩
        · skip
          first | (have t18 : ¬ (v1.toInt = (0)) := (not_congr (i_eq rfl (show (0 : Int32).toInt = 0 from rfl))).mp c17) | (have t18 : ¬ (v1.toInt = (0 : Int32).toInt) := (not_congr (i_eq rfl rfl)).mp c17) | skip
          unfold f_X11_rules_b36
          refine ⟨fun c19 => ?_, fun c19 => ?_⟩
          · skip
            first | (have t20 : ¬ (v1.toInt = (0)) := (not_congr (i_eq rfl (show (0 : Int32).toInt = 0 from rfl))).mp c19) | (have t20 : ¬ (v1.toInt = (0 : Int32).toInt) := (not_congr (i_eq rfl rfl)).mp c19) | skip
            intro b21 eb21
            obtain rfl : b9 = b21 := Option.some.inj (eb9.symm.trans eb21)
            intro b22 eb22
            obtain ⟨x23, ex23, kb22⟩ := sh_o w_I.1 kb9 (j := 4) (k := 4) rfl
            cases eb22.symm.trans ex23
            intro b24 eb24
            obtain ⟨x25, ex25, kb24, lb24⟩ := sh_f w_I.1 kv0 (j := 6) (k := 14) (m := 8) rfl
            cases eb24.symm.trans ex25
            refine s_X4_mainsInto w_I b22 b24 kb22 kb24 v0 11 6 kv0 eb24 (by decide) rfl (by omega) (by intro i v; first | trivial | exact p1 i v) (fun  I26 L27 w_I26 f_I26  => ?_)
            have q_I26 : FR Ws_X11_rules Z I Z I26 := q_I.trans w_I.1 w_I.2.1 (f_I26.mono (by first | decide | (intro p hp; simp at hp ⊢; omega) | simp))
            unfold f_X11_rules_b72
            refine ⟨fun c28 => ?_, fun c28 => ?_⟩
            · skip
              first | (have t29 : ¬ (v1.toInt = (0)) := (not_congr (i_eq rfl (show (0 : Int32).toInt = 0 from rfl))).mp c28) | (have t29 : ¬ (v1.toInt = (0 : Int32).toInt) := (not_congr (i_eq rfl rfl)).mp c28) | skip
              intro b30 eb30
              obtain rfl : b9 = b30 := Option.some.inj (eb9.symm.trans eb30)
              have t32 : 0 ≤ (I26 b9 9).toInt ∧ (I26 b9 9).toInt ≤ 24 := w_I26.fld 8 9 kb9 (by decide)
              unfold f_X11_rules_b90
              refine s_X11_fewestOver w_I26 v0 (I26 b9 9) kv0   (fun r33  => ?_)
              have rr33 := i_rng r33
              refine s_X11_tellOne w_I26 v0 (r33.toInt64) kv0   (fun  I34 L35 w_I34 f_I34  => ?_)
              have q_I34 : FR Ws_X11_rules Z I Z I34 := q_I26.trans w_I.1 w_I.2.1 (f_I34.mono (by decide))
              have u36 : (I34 b9 9).toInt = (I26 b9 9).toInt := by rw [f_I34.2.2.1 b9 8 9 kb9 (by decide) (by decide)]
              refine s_J6_bitCount_0f7a4 w_I34 r33    (fun r37 p38 => ?_)
              have rr37 := i_rng r37
              exact hQ r37 I34 L35 w_I34 q_I34 
            · skip
              first | (have t39 : v1.toInt = (0) := (i_eq rfl (show (0 : Int32).toInt = 0 from rfl)).mp c28) | (have t39 : v1.toInt = (0 : Int32).toInt := (i_eq rfl rfl).mp c28) | skip
              unfold f_X11_rules_b90
              have t40 : (720 : Int32).toInt = 720 := rfl
              refine s_X11_fewestOver w_I26 v0 (720 : Int32) kv0   (fun r41  => ?_)
              have rr41 := i_rng r41
              refine s_X11_tellOne w_I26 v0 (r41.toInt64) kv0   (fun  I42 L43 w_I42 f_I42  => ?_)
              have q_I42 : FR Ws_X11_rules Z I Z I42 := q_I26.trans w_I.1 w_I.2.1 (f_I42.mono (by decide))
              refine s_J6_bitCount_0f7a4 w_I42 r41    (fun r44 p45 => ?_)
              have rr44 := i_rng r44
              exact hQ r44 I42 L43 w_I42 q_I42 
          · skip
            first | (have t46 : v1.toInt = (0) := (i_eq rfl (show (0 : Int32).toInt = 0 from rfl)).mp c19) | (have t46 : v1.toInt = (0 : Int32).toInt := (i_eq rfl rfl).mp c19) | skip
            intro b47 eb47
            obtain rfl : b9 = b47 := Option.some.inj (eb9.symm.trans eb47)
            intro b48 eb48
            obtain ⟨x49, ex49, kb48⟩ := sh_o w_I.1 kb9 (j := 4) (k := 4) rfl
            cases eb48.symm.trans ex49
            intro b50 eb50
            obtain ⟨x51, ex51, kb50, lb50⟩ := sh_f w_I.1 kv0 (j := 6) (k := 14) (m := 8) rfl
            cases eb50.symm.trans ex51
            refine s_X4_shareInto w_I b48 v2 b50 kb48 kb50 v0 11 6 kv0 eb50 (by decide) rfl (by omega) (by intro i v; first | trivial | exact p1 i v) (fun  I52 L53 w_I52 f_I52  => ?_)
            have q_I52 : FR Ws_X11_rules Z I Z I52 := q_I.trans w_I.1 w_I.2.1 (f_I52.mono (by first | decide | (intro p hp; simp at hp ⊢; omega) | simp))
            unfold f_X11_rules_b72
            refine ⟨fun c54 => ?_, fun c54 => ?_⟩
            · skip
              first | (have t55 : ¬ (v1.toInt = (0)) := (not_congr (i_eq rfl (show (0 : Int32).toInt = 0 from rfl))).mp c54) | (have t55 : ¬ (v1.toInt = (0 : Int32).toInt) := (not_congr (i_eq rfl rfl)).mp c54) | skip
              intro b56 eb56
              obtain rfl : b9 = b56 := Option.some.inj (eb9.symm.trans eb56)
              have t58 : 0 ≤ (I52 b9 9).toInt ∧ (I52 b9 9).toInt ≤ 24 := w_I52.fld 8 9 kb9 (by decide)
              unfold f_X11_rules_b90
              refine s_X11_fewestOver w_I52 v0 (I52 b9 9) kv0   (fun r59  => ?_)
              have rr59 := i_rng r59
              refine s_X11_tellOne w_I52 v0 (r59.toInt64) kv0   (fun  I60 L61 w_I60 f_I60  => ?_)
              have q_I60 : FR Ws_X11_rules Z I Z I60 := q_I52.trans w_I.1 w_I.2.1 (f_I60.mono (by decide))
              have u62 : (I60 b9 9).toInt = (I52 b9 9).toInt := by rw [f_I60.2.2.1 b9 8 9 kb9 (by decide) (by decide)]
              refine s_J6_bitCount_0f7a4 w_I60 r59    (fun r63 p64 => ?_)
              have rr63 := i_rng r63
              exact hQ r63 I60 L61 w_I60 q_I60 
            · skip
              first | (have t65 : v1.toInt = (0) := (i_eq rfl (show (0 : Int32).toInt = 0 from rfl)).mp c54) | (have t65 : v1.toInt = (0 : Int32).toInt := (i_eq rfl rfl).mp c54) | skip
              unfold f_X11_rules_b90
              have t66 : (720 : Int32).toInt = 720 := rfl
              refine s_X11_fewestOver w_I52 v0 (720 : Int32) kv0   (fun r67  => ?_)
              have rr67 := i_rng r67
              refine s_X11_tellOne w_I52 v0 (r67.toInt64) kv0   (fun  I68 L69 w_I68 f_I68  => ?_)
              have q_I68 : FR Ws_X11_rules Z I Z I68 := q_I52.trans w_I.1 w_I.2.1 (f_I68.mono (by decide))
              refine s_J6_bitCount_0f7a4 w_I68 r67    (fun r70 p71 => ?_)
              have rr70 := i_rng r70
              exact hQ r70 I68 L69 w_I68 q_I68 
        · skip
          first | (have t72 : v1.toInt = (0) := (i_eq rfl (show (0 : Int32).toInt = 0 from rfl)).mp c17) | (have t72 : v1.toInt = (0 : Int32).toInt := (i_eq rfl rfl).mp c17) | skip
          intro b73 eb73
          obtain rfl : b9 = b73 := Option.some.inj (eb9.symm.trans eb73)
          refine s_X8_has w_I b9 v2 kb9   (fun r74 p75 => ?_)
          have rr74 := i_rng r74
          refine ⟨fun c76 => ?_, fun c76 => ?_⟩
          · skip
            first | (have t77 : ¬ (r74.toInt = (0)) := (not_congr (i_eq rfl (show (0 : Int32).toInt = 0 from rfl))).mp c76) | (have t77 : ¬ (r74.toInt = (0 : Int32).toInt) := (not_congr (i_eq rfl rfl)).mp c76) | skip
            unfold f_X11_rules_b36
            refine ⟨fun c78 => ?_, fun c78 => ?_⟩
            · skip
              first | (have t79 : ¬ (v1.toInt = (0)) := (not_congr (i_eq rfl (show (0 : Int32).toInt = 0 from rfl))).mp c78) | (have t79 : ¬ (v1.toInt = (0 : Int32).toInt) := (not_congr (i_eq rfl rfl)).mp c78) | skip
              intro b80 eb80
              obtain rfl : b9 = b80 := Option.some.inj (eb9.symm.trans eb80)
              intro b81 eb81
              obtain ⟨x82, ex82, kb81⟩ := sh_o w_I.1 kb9 (j := 4) (k := 4) rfl
              cases eb81.symm.trans ex82
              intro b83 eb83
              obtain ⟨x84, ex84, kb83, lb83⟩ := sh_f w_I.1 kv0 (j := 6) (k := 14) (m := 8) rfl
              cases eb83.symm.trans ex84
              refine s_X4_mainsInto w_I b81 b83 kb81 kb83 v0 11 6 kv0 eb83 (by decide) rfl (by omega) (by intro i v; first | trivial | exact p1 i v) (fun  I85 L86 w_I85 f_I85  => ?_)
              have q_I85 : FR Ws_X11_rules Z I Z I85 := q_I.trans w_I.1 w_I.2.1 (f_I85.mono (by first | decide | (intro p hp; simp at hp ⊢; omega) | simp))
              unfold f_X11_rules_b72
              refine ⟨fun c87 => ?_, fun c87 => ?_⟩
              · skip
                first | (have t88 : ¬ (v1.toInt = (0)) := (not_congr (i_eq rfl (show (0 : Int32).toInt = 0 from rfl))).mp c87) | (have t88 : ¬ (v1.toInt = (0 : Int32).toInt) := (not_congr (i_eq rfl rfl)).mp c87) | skip
                intro b89 eb89
                obtain rfl : b9 = b89 := Option.some.inj (eb9.symm.trans eb89)
                have t91 : 0 ≤ (I85 b9 9).toInt ∧ (I85 b9 9).toInt ≤ 24 := w_I85.fld 8 9 kb9 (by decide)
                unfold f_X11_rules_b90
                refine s_X11_fewestOver w_I85 v0 (I85 b9 9) kv0   (fun r92  => ?_)
                have rr92 := i_rng r92
                refine s_X11_tellOne w_I85 v0 (r92.toInt64) kv0   (fun  I93 L94 w_I93 f_I93  => ?_)
                have q_I93 : FR Ws_X11_rules Z I Z I93 := q_I85.trans w_I.1 w_I.2.1 (f_I93.mono (by decide))
                have u95 : (I93 b9 9).toInt = (I85 b9 9).toInt := by rw [f_I93.2.2.1 b9 8 9 kb9 (by decide) (by decide)]
                refine s_J6_bitCount_0f7a4 w_I93 r92    (fun r96 p97 => ?_)
                have rr96 := i_rng r96
                exact hQ r96 I93 L94 w_I93 q_I93 
              · skip
                first | (have t98 : v1.toInt = (0) := (i_eq rfl (show (0 : Int32).toInt = 0 from rfl)).mp c87) | (have t98 : v1.toInt = (0 : Int32).toInt := (i_eq rfl rfl).mp c87) | skip
                unfold f_X11_rules_b90
                have t99 : (720 : Int32).toInt = 720 := rfl
                refine s_X11_fewestOver w_I85 v0 (720 : Int32) kv0   (fun r100  => ?_)
                have rr100 := i_rng r100
                refine s_X11_tellOne w_I85 v0 (r100.toInt64) kv0   (fun  I101 L102 w_I101 f_I101  => ?_)
                have q_I101 : FR Ws_X11_rules Z I Z I101 := q_I85.trans w_I.1 w_I.2.1 (f_I101.mono (by decide))
                refine s_J6_bitCount_0f7a4 w_I101 r100    (fun r103 p104 => ?_)
                have rr103 := i_rng r103
                exact hQ r103 I101 L102 w_I101 q_I101 
            · skip
              first | (have t105 : v1.toInt = (0) := (i_eq rfl (show (0 : Int32).toInt = 0 from rfl)).mp c78) | (have t105 : v1.toInt = (0 : Int32).toInt := (i_eq rfl rfl).mp c78) | skip
              intro b106 eb106
              obtain rfl : b9 = b106 := Option.some.inj (eb9.symm.trans eb106)
              intro b107 eb107
              obtain ⟨x108, ex108, kb107⟩ := sh_o w_I.1 kb9 (j := 4) (k := 4) rfl
              cases eb107.symm.trans ex108
              intro b109 eb109
              obtain ⟨x110, ex110, kb109, lb109⟩ := sh_f w_I.1 kv0 (j := 6) (k := 14) (m := 8) rfl
              cases eb109.symm.trans ex110
              refine s_X4_shareInto w_I b107 v2 b109 kb107 kb109 v0 11 6 kv0 eb109 (by decide) rfl (by omega) (by intro i v; first | trivial | exact p1 i v) (fun  I111 L112 w_I111 f_I111  => ?_)
              have q_I111 : FR Ws_X11_rules Z I Z I111 := q_I.trans w_I.1 w_I.2.1 (f_I111.mono (by first | decide | (intro p hp; simp at hp ⊢; omega) | simp))
              unfold f_X11_rules_b72
              refine ⟨fun c113 => ?_, fun c113 => ?_⟩
              · skip
                first | (have t114 : ¬ (v1.toInt = (0)) := (not_congr (i_eq rfl (show (0 : Int32).toInt = 0 from rfl))).mp c113) | (have t114 : ¬ (v1.toInt = (0 : Int32).toInt) := (not_congr (i_eq rfl rfl)).mp c113) | skip
                intro b115 eb115
                obtain rfl : b9 = b115 := Option.some.inj (eb9.symm.trans eb115)
                have t117 : 0 ≤ (I111 b9 9).toInt ∧ (I111 b9 9).toInt ≤ 24 := w_I111.fld 8 9 kb9 (by decide)
                unfold f_X11_rules_b90
                refine s_X11_fewestOver w_I111 v0 (I111 b9 9) kv0   (fun r118  => ?_)
                have rr118 := i_rng r118
                refine s_X11_tellOne w_I111 v0 (r118.toInt64) kv0   (fun  I119 L120 w_I119 f_I119  => ?_)
                have q_I119 : FR Ws_X11_rules Z I Z I119 := q_I111.trans w_I.1 w_I.2.1 (f_I119.mono (by decide))
                have u121 : (I119 b9 9).toInt = (I111 b9 9).toInt := by rw [f_I119.2.2.1 b9 8 9 kb9 (by decide) (by decide)]
                refine s_J6_bitCount_0f7a4 w_I119 r118    (fun r122 p123 => ?_)
                have rr122 := i_rng r122
                exact hQ r122 I119 L120 w_I119 q_I119 
              · skip
                first | (have t124 : v1.toInt = (0) := (i_eq rfl (show (0 : Int32).toInt = 0 from rfl)).mp c113) | (have t124 : v1.toInt = (0 : Int32).toInt := (i_eq rfl rfl).mp c113) | skip
                unfold f_X11_rules_b90
                have t125 : (720 : Int32).toInt = 720 := rfl
                refine s_X11_fewestOver w_I111 v0 (720 : Int32) kv0   (fun r126  => ?_)
                have rr126 := i_rng r126
                refine s_X11_tellOne w_I111 v0 (r126.toInt64) kv0   (fun  I127 L128 w_I127 f_I127  => ?_)
                have q_I127 : FR Ws_X11_rules Z I Z I127 := q_I111.trans w_I.1 w_I.2.1 (f_I127.mono (by decide))
                refine s_J6_bitCount_0f7a4 w_I127 r126    (fun r129 p130 => ?_)
                have rr129 := i_rng r129
                exact hQ r129 I127 L128 w_I127 q_I127 
          · skip
            first | (have t131 : r74.toInt = (0) := (i_eq rfl (show (0 : Int32).toInt = 0 from rfl)).mp c76) | (have t131 : r74.toInt = (0 : Int32).toInt := (i_eq rfl rfl).mp c76) | skip
            have t132 : (-1 : Int32).toInt = -1 := rfl
            exact hQ (-1 : Int32) I L w_I q_I 
def Ws_X11_keep : List (Nat × Nat) := [(2, 0), (2, 1), (2, 2), (2, 3), (2, 4), (2, 5), (2, 6), (2, 7), (2, 8)]
set_option maxHeartbeats 4000000 in
set_option maxRecDepth 100000 in
theorem l_X11_keep_L55 {Z : jZ} {I0 : jI} {Q : Int32 → jI → jL → Prop} (w0 : WD Z I0) (v0 : Nat) (v1 : Int32) (kv0 : jk Z v0 11) (v2 : Nat) (kv2 : jk Z v2 2) (hQ : ∀ (r : Int32) (I' : jI) (L' : jL), WD Z I' → FR Ws_X11_keep Z I0 Z I' → ((r.toInt = 1 ∧ 0 ≤ v1.toInt ∧ v1.toInt ≤ 1) ∨ (r.toInt = 0 ∧ ¬ (0 ≤ v1.toInt ∧ v1.toInt ≤ 1))) → Q r I' L') : ∀ (n : Nat) (v3 : Int32) (I : jI) (L : jL), WD Z I → FR Ws_X11_keep Z I0 Z I →   (0 ≤ v3.toInt ∧ v3.toInt ≤ 6 ∧ 0 ≤ v1.toInt ∧ v1.toInt ≤ 1) → 6 - v3.toInt < (n : Int) → f_X11_keep_L55  Z Q n v0 v2 v3 I L := by
  intro n
  induction n with
  | zero =>
    intro v3 I L w_I q_I   li  me
    exfalso
    omega
  | succ n ih =>
    intro v3 I L w_I q_I   li  me
    unfold f_X11_keep_L55
    have rv3 := i_rng v3
    have rv1 := i_rng v1
    have t2 : 0 ≤ (I v0 4).toInt ∧ (I v0 4).toInt ≤ 6 := w_I.fld 11 4 kv0 (by decide)
    refine ⟨fun c3 => ?_, fun c3 => ?_⟩
    · skip
      first | (have t4 : (I v0 4).toInt ≤ v3.toInt := (i_le rfl rfl).mp c3) | (have t4 : (I v0 4).toInt ≤ v3.toInt := (i_le rfl rfl).mp c3) | skip
      intro I5 eI5
      have t6 : (1 : Int32).toInt = 1 := rfl
      have w_I5 : WD Z I5 := by rw [eI5]; exact WD_putF w_I 2 8 kv2 (by decide) (by decide) trivial
      have f_I5 : FR [(2, 8)] Z I Z I5 := by rw [eI5]; exact FR_putF kv2 (by decide) List.mem_cons_self
      have q_I5 : FR Ws_X11_keep Z I0 Z I5 := q_I.trans w0.1 w0.2.1 (f_I5.mono (by decide))
      have u7 : (I5 v0 4).toInt = (I v0 4).toInt := by rw [f_I5.2.2.1 v0 11 4 kv0 (by decide) (by decide)]
      first | (have u8 : (I5 v2 8).toInt = (1) := by (rw [eI5, show jpI I v2 8 (1 : Int32) v2 8 = (1 : Int32) from jpI_at] <;> exact (show (1 : Int32).toInt = 1 from rfl))) | skip
      have t9 : (1 : Int32).toInt = 1 := rfl
      exact hQ (1 : Int32) I5 L w_I5 q_I5 (by omega)
    · skip
      first | (have t10 : ¬ ((I v0 4).toInt ≤ v3.toInt) := (not_congr (i_le rfl rfl)).mp c3) | (have t10 : ¬ ((I v0 4).toInt ≤ v3.toInt) := (not_congr (i_le rfl rfl)).mp c3) | skip
      refine s_X11_find w_I v0 v3 kv0   (fun r11 p12 => ?_)
      refine ⟨fun c14 => ?_, fun b13 c14 => ?_⟩
      · skip
        unfold f_X11_keep_b82
        intro x15 ex15
        have rx15 := i_rng x15
        first | (have tx15 : x15.toInt = v3.toInt + (1) := by (rw [ex15]; exact (i_add rfl (show (1 : Int32).toInt = 1 from rfl) (by omega) (by omega)))) | skip
        exact ih x15 I L w_I q_I   (by omega)  (by omega)
      · skip
        have kb13 : jk Z b13 5 := by first | exact p12 b13 c14 | exact (p12 b13 c14).1 | exact (p12.1 b13 c14).1
        refine s_X2_putPilgrim w_I v2 v3 b13 kv2 kb13   (fun  I16 L17 w_I16 f_I16  => ?_)
        have q_I16 : FR Ws_X11_keep Z I0 Z I16 := q_I.trans w0.1 w0.2.1 (f_I16.mono (by decide))
        have u18 : (I16 v0 4).toInt = (I v0 4).toInt := by rw [f_I16.2.2.1 v0 11 4 kv0 (by decide) (by decide)]
        unfold f_X11_keep_b82
        intro x19 ex19
        have rx19 := i_rng x19
        first | (have tx19 : x19.toInt = v3.toInt + (1) := by (rw [ex19]; exact (i_add rfl (show (1 : Int32).toInt = 1 from rfl) (by omega) (by omega)))) | skip
        exact ih x19 I16 L17 w_I16 q_I16   (by omega)  (by omega)
set_option maxHeartbeats 4000000 in
set_option maxRecDepth 100000 in
theorem s_X11_keep {Z : jZ} {I : jI} {L : jL} (w_I : WD Z I) (v0 : Nat) (v1 : Int32) (kv0 : jk Z v0 11) {Q : Int32 → jI → jL → Prop} (hQ : ∀ (r : Int32) (I' : jI) (L' : jL), WD Z I' → FR Ws_X11_keep Z I Z I' → ((r.toInt = 1 ∧ 0 ≤ v1.toInt ∧ v1.toInt ≤ 1) ∨ (r.toInt = 0 ∧ ¬ (0 ≤ v1.toInt ∧ v1.toInt ≤ 1))) → Q r I' L') : f_X11_keep v0 v1 Z I L Q := by
  unfold f_X11_keep
  have q_I : FR Ws_X11_keep Z I Z I := FR.rf
  have rv1 := i_rng v1
  refine ⟨fun c20 => ?_, fun c20 => ?_⟩
  · skip
    first | (have t21 : v1.toInt < (0) := (i_lt rfl (show (0 : Int32).toInt = 0 from rfl)).mp c20) | (have t21 : v1.toInt < (0 : Int32).toInt := (i_lt rfl rfl).mp c20) | skip
    have t22 : (0 : Int32).toInt = 0 := rfl
    exact hQ (0 : Int32) I L w_I q_I (by omega)
  · skip
    first | (have t23 : ¬ (v1.toInt < (0)) := (not_congr (i_lt rfl (show (0 : Int32).toInt = 0 from rfl))).mp c20) | (have t23 : ¬ (v1.toInt < (0 : Int32).toInt) := (not_congr (i_lt rfl rfl)).mp c20) | skip
    intro b24 eb24
    obtain ⟨x25, ex25, kb24, lb24⟩ := sh_f w_I.1 kv0 (j := 8) (k := 17) (m := 2) rfl
    cases eb24.symm.trans ex25
    refine ⟨fun c26 => ?_, fun c26 => ?_⟩
    · skip
      first | (have t27 : v1.toInt < (2) := (i_lt rfl (show (2 : Int32).toInt = 2 from rfl)).mp c26) | (have t27 : v1.toInt < (2 : Int32).toInt := (i_lt rfl rfl).mp c26) | skip
      intro b28 eb28
      obtain rfl : b24 = b28 := Option.some.inj (eb24.symm.trans eb28)
      have o29 : vp_in v1 2 := vi_of rfl (by omega) (by omega)
      refine ⟨o29, ?_⟩
      intro b30 eb30
      obtain ⟨x32, ex32, kb30⟩ := w_I.1.2.2.1 b24 kb24 _ (vp_lt (by rw [lb24]; exact o29))
      cases eb30.symm.trans ex32
      intro b33 eb33
      obtain ⟨x34, ex34, kb33⟩ := sh_o w_I.1 kv0 (j := 2) (k := 8) rfl
      cases eb33.symm.trans ex34
      refine s_X2_putStairs w_I b30 b33 kb30 kb33   (fun  I35 L36 w_I35 f_I35  => ?_)
      have q_I35 : FR Ws_X11_keep Z I Z I35 := q_I.trans w_I.1 w_I.2.1 (f_I35.mono (by decide))
      intro b37 eb37
      obtain ⟨x38, ex38, kb37, lb37⟩ := sh_f w_I35.1 kv0 (j := 5) (k := 14) (m := 8) rfl
      cases eb37.symm.trans ex38
      intro b39 eb39
      obtain ⟨x40, ex40, kb39, lb39⟩ := sh_f w_I35.1 kb30 (j := 3) (k := 14) (m := 8) rfl
      cases eb39.symm.trans ex40
      have t41 : (0 : Int32).toInt = 0 := rfl
      have t42 : (0 : Int32).toInt = 0 := rfl
      have t43 : (8 : Int32).toInt = 8 := rfl
      have t44 := i_nat (x := (0 : Int32)) (show (0 : Int32).toInt = 0 from rfl) (by omega)
      have t45 := i_nat (x := (0 : Int32)) (show (0 : Int32).toInt = 0 from rfl) (by omega)
      have t46 := i_nat (x := (8 : Int32)) (show (8 : Int32).toInt = 8 from rfl) (by omega)
      refine ⟨⟨(not_congr (i_lt (show (0 : Int32).toInt = 0 from rfl) (show (0 : Int32).toInt = 0 from rfl))).mpr (by omega), (not_congr (i_lt (show (0 : Int32).toInt = 0 from rfl) (show (0 : Int32).toInt = 0 from rfl))).mpr (by omega), (not_congr (i_lt (show (8 : Int32).toInt = 8 from rfl) (show (0 : Int32).toInt = 0 from rfl))).mpr (by omega), by omega, by omega⟩, ?_⟩
      intro I47 eI47
      have w_I47 : WD Z I47 := by rw [eI47]; exact WD_cpy w_I35 2 3 kb30 eb39 kb39 rfl rfl (by decide) (fun _ _ _ => trivial)
      have f_I47 : FR [(2, 3)] Z I35 Z I47 := by rw [eI47]; exact FR_upA w_I35.2.1 kb30 eb39 kb39 rfl rfl List.mem_cons_self
      have q_I47 : FR Ws_X11_keep Z I Z I47 := q_I35.trans w_I.1 w_I.2.1 (f_I47.mono (by decide))
      have t49 : 0 ≤ (I47 v0 4).toInt ∧ (I47 v0 4).toInt ≤ 6 := w_I47.fld 11 4 kv0 (by decide)
      intro I50 eI50
      have w_I50 : WD Z I50 := by rw [eI50]; exact WD_putF w_I47 2 7 kb30 (by decide) (by decide) trivial
      have f_I50 : FR [(2, 7)] Z I47 Z I50 := by rw [eI50]; exact FR_putF kb30 (by decide) List.mem_cons_self
      have q_I50 : FR Ws_X11_keep Z I Z I50 := q_I47.trans w_I.1 w_I.2.1 (f_I50.mono (by decide))
      have u51 : (I50 v0 4).toInt = (I47 v0 4).toInt := by rw [f_I50.2.2.1 v0 11 4 kv0 (by decide) (by decide)]
      first | (have u52 : (I50 b30 7).toInt = (I47 v0 4).toInt := by (rw [eI50, show jpI I47 b30 7 (I47 v0 4) b30 7 = (I47 v0 4) from jpI_at] <;> exact rfl)) | skip
      have t53 : (0 : Int32).toInt = 0 := rfl
      exact ⟨(6 - (0 : Int32).toInt).toNat + 1, l_X11_keep_L55 w_I v0 v1 kv0 b30 kb30 hQ   _ (0 : Int32) I50 L36 w_I50 q_I50   (by omega)  (by omega)⟩
    · skip
      first | (have t54 : ¬ (v1.toInt < (2)) := (not_congr (i_lt rfl (show (2 : Int32).toInt = 2 from rfl))).mp c26) | (have t54 : ¬ (v1.toInt < (2 : Int32).toInt) := (not_congr (i_lt rfl rfl)).mp c26) | skip
      have t55 : (0 : Int32).toInt = 0 := rfl
      exact hQ (0 : Int32) I L w_I q_I (by omega)
def Ws_X11_again : List (Nat × Nat) := [(4, 0), (4, 1), (4, 4), (5, 5), (5, 6), (5, 7), (8, 1), (8, 2), (11, 5)]
set_option maxHeartbeats 4000000 in
set_option maxRecDepth 100000 in
theorem l_X11_again_L59 {Z : jZ} {I0 : jI} {Q : Int32 → jI → jL → Prop} (w0 : WD Z I0) (v0 : Nat) (v1 : Int32) (kv0 : jk Z v0 11) (v2 : Nat) (kv2 : jk Z v2 2) (hQ : ∀ (r : Int32) (I' : jI) (L' : jL), WD Z I' → FR Ws_X11_again Z I0 Z I' → Q r I' L') : ∀ (n : Nat) (v3 : Int32) (I : jI) (L : jL), WD Z I → FR Ws_X11_again Z I0 Z I →   (0 ≤ v3.toInt ∧ v3.toInt ≤ 6) → 6 - v3.toInt < (n : Int) → f_X11_again_L59  Z Q n v0 v2 v3 I L := by
  intro n
  induction n with
  | zero =>
    intro v3 I L w_I q_I   li  me
    exfalso
    omega
  | succ n ih =>
    intro v3 I L w_I q_I   li  me
    unfold f_X11_again_L59
    have rv3 := i_rng v3
    have rv1 := i_rng v1
    refine ⟨fun c1 => ?_, fun c1 => ?_⟩
    · skip
      first | (have t2 : (I v2 7).toInt ≤ v3.toInt := (i_le rfl rfl).mp c1) | (have t2 : (I v2 7).toInt ≤ v3.toInt := (i_le rfl rfl).mp c1) | skip
      have t3 : (1 : Int32).toInt = 1 := rfl
      exact hQ (1 : Int32) I L w_I q_I 
    · skip
      first | (have t4 : ¬ ((I v2 7).toInt ≤ v3.toInt) := (not_congr (i_le rfl rfl)).mp c1) | (have t4 : ¬ ((I v2 7).toInt ≤ v3.toInt) := (not_congr (i_le rfl rfl)).mp c1) | skip
      have t6 : 0 ≤ (I v0 4).toInt ∧ (I v0 4).toInt ≤ 6 := w_I.fld 11 4 kv0 (by decide)
      refine ⟨fun c7 => ?_, fun c7 => ?_⟩
      · skip
        first | (have t8 : (I v0 4).toInt ≤ v3.toInt := (i_le rfl rfl).mp c7) | (have t8 : (I v0 4).toInt ≤ v3.toInt := (i_le rfl rfl).mp c7) | skip
        have t9 : (1 : Int32).toInt = 1 := rfl
        exact hQ (1 : Int32) I L w_I q_I 
      · skip
        first | (have t10 : ¬ ((I v0 4).toInt ≤ v3.toInt) := (not_congr (i_le rfl rfl)).mp c7) | (have t10 : ¬ ((I v0 4).toInt ≤ v3.toInt) := (not_congr (i_le rfl rfl)).mp c7) | skip
        refine s_X11_find w_I v0 v3 kv0   (fun r11 p12 => ?_)
        refine ⟨fun c14 => ?_, fun b13 c14 => ?_⟩
        · skip
          unfold f_X11_again_b94
          intro x15 ex15
          have rx15 := i_rng x15
          first | (have tx15 : x15.toInt = v3.toInt + (1) := by (rw [ex15]; exact (i_add rfl (show (1 : Int32).toInt = 1 from rfl) (by omega) (by omega)))) | skip
          exact ih x15 I L w_I q_I   (by omega)  (by omega)
        · skip
          have kb13 : jk Z b13 5 := by first | exact p12 b13 c14 | exact (p12 b13 c14).1 | exact (p12.1 b13 c14).1
          refine s_X2_getPilgrim w_I v2 v3 b13 kv2 kb13   (fun  I16 L17 w_I16 f_I16  => ?_)
          have q_I16 : FR Ws_X11_again Z I0 Z I16 := q_I.trans w0.1 w0.2.1 (f_I16.mono (by decide))
          have u18 : (I16 v2 7).toInt = (I v2 7).toInt := by rw [f_I16.2.2.1 v2 2 7 kv2 (by decide) (by decide)]
          have u19 : (I16 v0 4).toInt = (I v0 4).toInt := by rw [f_I16.2.2.1 v0 11 4 kv0 (by decide) (by decide)]
          unfold f_X11_again_b94
          intro x20 ex20
          have rx20 := i_rng x20
          first | (have tx20 : x20.toInt = v3.toInt + (1) := by (rw [ex20]; exact (i_add rfl (show (1 : Int32).toInt = 1 from rfl) (by omega) (by omega)))) | skip
          exact ih x20 I16 L17 w_I16 q_I16   (by omega)  (by omega)
set_option maxHeartbeats 4000000 in
set_option maxRecDepth 100000 in
theorem s_X11_again {Z : jZ} {I : jI} {L : jL} (w_I : WD Z I) (v0 : Nat) (v1 : Int32) (kv0 : jk Z v0 11) {Q : Int32 → jI → jL → Prop} (hQ : ∀ (r : Int32) (I' : jI) (L' : jL), WD Z I' → FR Ws_X11_again Z I Z I' → Q r I' L') : f_X11_again v0 v1 Z I L Q := by
  unfold f_X11_again
  have q_I : FR Ws_X11_again Z I Z I := FR.rf
  have rv1 := i_rng v1
  refine ⟨fun c21 => ?_, fun c21 => ?_⟩
  · skip
    first | (have t22 : v1.toInt < (0) := (i_lt rfl (show (0 : Int32).toInt = 0 from rfl)).mp c21) | (have t22 : v1.toInt < (0 : Int32).toInt := (i_lt rfl rfl).mp c21) | skip
    have t23 : (0 : Int32).toInt = 0 := rfl
    exact hQ (0 : Int32) I L w_I q_I 
  · skip
    first | (have t24 : ¬ (v1.toInt < (0)) := (not_congr (i_lt rfl (show (0 : Int32).toInt = 0 from rfl))).mp c21) | (have t24 : ¬ (v1.toInt < (0 : Int32).toInt) := (not_congr (i_lt rfl rfl)).mp c21) | skip
    intro b25 eb25
    obtain ⟨x26, ex26, kb25, lb25⟩ := sh_f w_I.1 kv0 (j := 8) (k := 17) (m := 2) rfl
    cases eb25.symm.trans ex26
    refine ⟨fun c27 => ?_, fun c27 => ?_⟩
    · skip
      first | (have t28 : (2) ≤ v1.toInt := (i_le (show (2 : Int32).toInt = 2 from rfl) rfl).mp c27) | (have t28 : (2 : Int32).toInt ≤ v1.toInt := (i_le rfl rfl).mp c27) | skip
      have t29 : (0 : Int32).toInt = 0 := rfl
      exact hQ (0 : Int32) I L w_I q_I 
    · skip
      first | (have t30 : ¬ ((2) ≤ v1.toInt) := (not_congr (i_le (show (2 : Int32).toInt = 2 from rfl) rfl)).mp c27) | (have t30 : ¬ ((2 : Int32).toInt ≤ v1.toInt) := (not_congr (i_le rfl rfl)).mp c27) | skip
      intro b31 eb31
      obtain rfl : b25 = b31 := Option.some.inj (eb25.symm.trans eb31)
      have o32 : vp_in v1 2 := vi_of rfl (by omega) (by omega)
      refine ⟨o32, ?_⟩
      intro b33 eb33
      obtain ⟨x35, ex35, kb33⟩ := w_I.1.2.2.1 b25 kb25 _ (vp_lt (by rw [lb25]; exact o32))
      cases eb33.symm.trans ex35
      refine ⟨fun c36 => ?_, fun c36 => ?_⟩
      · skip
        first | (have t37 : ¬ ((I b33 8).toInt = (0)) := (not_congr (i_eq rfl (show (0 : Int32).toInt = 0 from rfl))).mp c36) | (have t37 : ¬ ((I b33 8).toInt = (0 : Int32).toInt) := (not_congr (i_eq rfl rfl)).mp c36) | skip
        intro b38 eb38
        obtain rfl : b25 = b38 := Option.some.inj (eb25.symm.trans eb38)
        have o39 : vp_in v1 2 := vi_of rfl (by omega) (by omega)
        refine ⟨o39, ?_⟩
        intro b40 eb40
        obtain ⟨x42, ex42, kb40⟩ := w_I.1.2.2.1 b25 kb25 _ (vp_lt (by rw [lb25]; exact o39))
        cases eb40.symm.trans ex42
        intro b43 eb43
        obtain ⟨x44, ex44, kb43⟩ := sh_o w_I.1 kv0 (j := 2) (k := 8) rfl
        cases eb43.symm.trans ex44
        refine s_X2_getStairs w_I b40 b43 kb40 kb43   (fun  I45 L46 w_I45 f_I45  => ?_)
        have q_I45 : FR Ws_X11_again Z I Z I45 := q_I.trans w_I.1 w_I.2.1 (f_I45.mono (by decide))
        have u47 : (I45 b33 8).toInt = (I b33 8).toInt := by rw [f_I45.2.2.1 b33 2 8 kb33 (by decide) (by decide)]
        intro b48 eb48
        obtain ⟨x49, ex49, kb48, lb48⟩ := sh_f w_I45.1 kb40 (j := 3) (k := 14) (m := 8) rfl
        cases eb48.symm.trans ex49
        intro b50 eb50
        obtain ⟨x51, ex51, kb50, lb50⟩ := sh_f w_I45.1 kv0 (j := 5) (k := 14) (m := 8) rfl
        cases eb50.symm.trans ex51
        have t52 : (0 : Int32).toInt = 0 := rfl
        have t53 : (0 : Int32).toInt = 0 := rfl
        have t54 : (8 : Int32).toInt = 8 := rfl
        have t55 := i_nat (x := (0 : Int32)) (show (0 : Int32).toInt = 0 from rfl) (by omega)
        have t56 := i_nat (x := (0 : Int32)) (show (0 : Int32).toInt = 0 from rfl) (by omega)
        have t57 := i_nat (x := (8 : Int32)) (show (8 : Int32).toInt = 8 from rfl) (by omega)
        refine ⟨⟨(not_congr (i_lt (show (0 : Int32).toInt = 0 from rfl) (show (0 : Int32).toInt = 0 from rfl))).mpr (by omega), (not_congr (i_lt (show (0 : Int32).toInt = 0 from rfl) (show (0 : Int32).toInt = 0 from rfl))).mpr (by omega), (not_congr (i_lt (show (8 : Int32).toInt = 8 from rfl) (show (0 : Int32).toInt = 0 from rfl))).mpr (by omega), by omega, by omega⟩, ?_⟩
        intro I58 eI58
        have w_I58 : WD Z I58 := by rw [eI58]; exact WD_cpy w_I45 11 5 kv0 eb50 kb50 rfl rfl (by decide) (fun _ _ _ => trivial)
        have f_I58 : FR [(11, 5)] Z I45 Z I58 := by rw [eI58]; exact FR_upA w_I45.2.1 kv0 eb50 kb50 rfl rfl List.mem_cons_self
        have q_I58 : FR Ws_X11_again Z I Z I58 := q_I45.trans w_I.1 w_I.2.1 (f_I58.mono (by decide))
        have u59 : (I58 b33 8).toInt = (I45 b33 8).toInt := by rw [f_I58.2.2.1 b33 2 8 kb33 (by decide) (by decide)]
        have t60 : (0 : Int32).toInt = 0 := rfl
        exact ⟨(6 - (0 : Int32).toInt).toNat + 1, l_X11_again_L59 w_I v0 v1 kv0 b40 kb40 hQ   _ (0 : Int32) I58 L46 w_I58 q_I58   (by omega)  (by omega)⟩
      · skip
        first | (have t61 : (I b33 8).toInt = (0) := (i_eq rfl (show (0 : Int32).toInt = 0 from rfl)).mp c36) | (have t61 : (I b33 8).toInt = (0 : Int32).toInt := (i_eq rfl rfl).mp c36) | skip
        have t62 : (0 : Int32).toInt = 0 := rfl
        exact hQ (0 : Int32) I L w_I q_I 
set_option maxHeartbeats 4000000 in
set_option maxRecDepth 100000 in
theorem l_X11_sumOfPurses_L4 {Z : jZ} {I : jI} {L : jL} {Q : Int32 → jI → jL → Prop} (w_I : WD Z I) (v0 : Nat) (kv0 : jk Z v0 11) (hQ : ∀ (r : Int32), Q r I L) : ∀ (n : Nat) (v1 : Int32) (v2 : Int32) ,   (0 ≤ v2.toInt ∧ v2.toInt ≤ 8) → 8 - v2.toInt < (n : Int) → f_X11_sumOfPurses_L4  Z Q n v0 v1 v2 I L := by
  intro n
  induction n with
  | zero =>
    intro v1 v2   li  me
    exfalso
    omega
  | succ n ih =>
    intro v1 v2   li  me
    unfold f_X11_sumOfPurses_L4
    have rv1 := i_rng v1
    have rv2 := i_rng v2
    refine ⟨fun c1 => ?_, fun c1 => ?_⟩
    · skip
      first | (have t2 : (8) ≤ v2.toInt := (i_le (show (8 : Int32).toInt = 8 from rfl) rfl).mp c1) | (have t2 : (8 : Int32).toInt ≤ v2.toInt := (i_le rfl rfl).mp c1) | skip
      exact hQ v1 
    · skip
      first | (have t3 : ¬ ((8) ≤ v2.toInt) := (not_congr (i_le (show (8 : Int32).toInt = 8 from rfl) rfl)).mp c1) | (have t3 : ¬ ((8 : Int32).toInt ≤ v2.toInt) := (not_congr (i_le rfl rfl)).mp c1) | skip
      intro b4 eb4
      obtain ⟨x5, ex5, kb4, lb4⟩ := sh_f w_I.1 kv0 (j := 5) (k := 14) (m := 8) rfl
      cases eb4.symm.trans ex5
      have o6 : vp_in v2 8 := vi_of rfl (by omega) (by omega)
      refine ⟨o6, ?_⟩
      intro x7 ex7
      have rx7 := i_rng x7
      first | (have tx7 : x7.toInt = (v1.toInt + (I b4 v2.toNatClampNeg).toInt) := by (rw [ex7]; exact (i_add rfl rfl (by omega) (by omega)))) | (have tx7 : x7.toInt = (v1 + (I b4 v2.toNatClampNeg)).toInt := by rw [ex7])
      intro x8 ex8
      have rx8 := i_rng x8
      first | (have tx8 : x8.toInt = v2.toInt + (1) := by (rw [ex8]; exact (i_add rfl (show (1 : Int32).toInt = 1 from rfl) (by omega) (by omega)))) | skip
      exact ih x7 x8   (by omega)  (by omega)
set_option maxHeartbeats 4000000 in
set_option maxRecDepth 100000 in
theorem s_X11_sumOfPurses {Z : jZ} {I : jI} {L : jL} (w_I : WD Z I) (v0 : Nat) (kv0 : jk Z v0 11) {Q : Int32 → jI → jL → Prop} (hQ : ∀ (r : Int32), Q r I L) : f_X11_sumOfPurses v0 Z I L Q := by
  unfold f_X11_sumOfPurses
  have t9 : (0 : Int32).toInt = 0 := rfl
  have t10 : (0 : Int32).toInt = 0 := rfl
  exact ⟨(8 - (0 : Int32).toInt).toNat + 1, l_X11_sumOfPurses_L4 w_I v0 kv0   hQ   _ (0 : Int32) (0 : Int32)   (by omega)  (by omega)⟩
set_option maxHeartbeats 4000000 in
set_option maxRecDepth 100000 in
theorem s_X11_count {Z : jZ} {I : jI} {L : jL} (w_I : WD Z I) (v0 : Nat) (v1 : Int32) (kv0 : jk Z v0 11) {Q : Int32 → jI → jL → Prop} (hQ : ∀ (r : Int32), Q r I L) : f_X11_count v0 v1 Z I L Q := by
  unfold f_X11_count
  have rv1 := i_rng v1
  refine ⟨fun c1 => ?_, fun c1 => ?_⟩
  · skip
    first | (have t2 : v1.toInt = (0) := (i_eq rfl (show (0 : Int32).toInt = 0 from rfl)).mp c1) | (have t2 : v1.toInt = (0 : Int32).toInt := (i_eq rfl rfl).mp c1) | skip
    intro b3 eb3
    obtain ⟨x4, ex4, kb3⟩ := sh_o w_I.1 kv0 (j := 2) (k := 8) rfl
    cases eb3.symm.trans ex4
    have t6 : 0 ≤ (I b3 9).toInt ∧ (I b3 9).toInt ≤ 24 := w_I.fld 8 9 kb3 (by decide)
    exact hQ (I b3 9) 
  · skip
    first | (have t7 : ¬ (v1.toInt = (0)) := (not_congr (i_eq rfl (show (0 : Int32).toInt = 0 from rfl))).mp c1) | (have t7 : ¬ (v1.toInt = (0 : Int32).toInt) := (not_congr (i_eq rfl rfl)).mp c1) | skip
    refine ⟨fun c8 => ?_, fun c8 => ?_⟩
    · skip
      first | (have t9 : v1.toInt = (1) := (i_eq rfl (show (1 : Int32).toInt = 1 from rfl)).mp c8) | (have t9 : v1.toInt = (1 : Int32).toInt := (i_eq rfl rfl).mp c8) | skip
      have t11 : 0 ≤ (I v0 4).toInt ∧ (I v0 4).toInt ≤ 6 := w_I.fld 11 4 kv0 (by decide)
      exact hQ (I v0 4) 
    · skip
      first | (have t12 : ¬ (v1.toInt = (1)) := (not_congr (i_eq rfl (show (1 : Int32).toInt = 1 from rfl))).mp c8) | (have t12 : ¬ (v1.toInt = (1 : Int32).toInt) := (not_congr (i_eq rfl rfl)).mp c8) | skip
      refine ⟨fun c13 => ?_, fun c13 => ?_⟩
      · skip
        first | (have t14 : v1.toInt = (2) := (i_eq rfl (show (2 : Int32).toInt = 2 from rfl)).mp c13) | (have t14 : v1.toInt = (2 : Int32).toInt := (i_eq rfl rfl).mp c13) | skip
        intro b15 eb15
        obtain ⟨x16, ex16, kb15⟩ := sh_o w_I.1 kv0 (j := 2) (k := 8) rfl
        cases eb15.symm.trans ex16
        intro b17 eb17
        obtain ⟨x18, ex18, kb17⟩ := sh_o w_I.1 kb15 (j := 6) (k := 3) rfl
        cases eb17.symm.trans ex18
        refine s_X3_isTold w_I b17 kb17   (fun r19  => ?_)
        have rr19 := i_rng r19
        refine ⟨fun c20 => ?_, fun c20 => ?_⟩
        · skip
          first | (have t21 : r19.toInt = (0) := (i_eq rfl (show (0 : Int32).toInt = 0 from rfl)).mp c20) | (have t21 : r19.toInt = (0 : Int32).toInt := (i_eq rfl rfl).mp c20) | skip
          unfold f_X11_count_b79
          intro b22 eb22
          obtain rfl : b15 = b22 := Option.some.inj (eb15.symm.trans eb22)
          intro b23 eb23
          obtain ⟨x24, ex24, kb23⟩ := sh_o w_I.1 kb15 (j := 7) (k := 3) rfl
          cases eb23.symm.trans ex24
          refine s_X3_isTold w_I b23 kb23   (fun r25  => ?_)
          have rr25 := i_rng r25
          refine ⟨fun c26 => ?_, fun c26 => ?_⟩
          · skip
            first | (have t27 : r25.toInt = (0) := (i_eq rfl (show (0 : Int32).toInt = 0 from rfl)).mp c26) | (have t27 : r25.toInt = (0 : Int32).toInt := (i_eq rfl rfl).mp c26) | skip
            unfold f_X11_count_b97
            try (have t28 : ((0 : Int32) + (0 : Int32)).toInt = ((0) + (0)) := (i_add (show (0 : Int32).toInt = 0 from rfl) (show (0 : Int32).toInt = 0 from rfl) (by omega) (by omega)))
            exact hQ ((0 : Int32) + (0 : Int32)) 
          · skip
            first | (have t29 : ¬ (r25.toInt = (0)) := (not_congr (i_eq rfl (show (0 : Int32).toInt = 0 from rfl))).mp c26) | (have t29 : ¬ (r25.toInt = (0 : Int32).toInt) := (not_congr (i_eq rfl rfl)).mp c26) | skip
            unfold f_X11_count_b97
            try (have t30 : ((0 : Int32) + (2 : Int32)).toInt = ((0) + (2)) := (i_add (show (0 : Int32).toInt = 0 from rfl) (show (2 : Int32).toInt = 2 from rfl) (by omega) (by omega)))
            exact hQ ((0 : Int32) + (2 : Int32)) 
        · skip
          first | (have t31 : ¬ (r19.toInt = (0)) := (not_congr (i_eq rfl (show (0 : Int32).toInt = 0 from rfl))).mp c20) | (have t31 : ¬ (r19.toInt = (0 : Int32).toInt) := (not_congr (i_eq rfl rfl)).mp c20) | skip
          unfold f_X11_count_b79
          intro b32 eb32
          obtain rfl : b15 = b32 := Option.some.inj (eb15.symm.trans eb32)
          intro b33 eb33
          obtain ⟨x34, ex34, kb33⟩ := sh_o w_I.1 kb15 (j := 7) (k := 3) rfl
          cases eb33.symm.trans ex34
          refine s_X3_isTold w_I b33 kb33   (fun r35  => ?_)
          have rr35 := i_rng r35
          refine ⟨fun c36 => ?_, fun c36 => ?_⟩
          · skip
            first | (have t37 : r35.toInt = (0) := (i_eq rfl (show (0 : Int32).toInt = 0 from rfl)).mp c36) | (have t37 : r35.toInt = (0 : Int32).toInt := (i_eq rfl rfl).mp c36) | skip
            unfold f_X11_count_b97
            try (have t38 : ((1 : Int32) + (0 : Int32)).toInt = ((1) + (0)) := (i_add (show (1 : Int32).toInt = 1 from rfl) (show (0 : Int32).toInt = 0 from rfl) (by omega) (by omega)))
            exact hQ ((1 : Int32) + (0 : Int32)) 
          · skip
            first | (have t39 : ¬ (r35.toInt = (0)) := (not_congr (i_eq rfl (show (0 : Int32).toInt = 0 from rfl))).mp c36) | (have t39 : ¬ (r35.toInt = (0 : Int32).toInt) := (not_congr (i_eq rfl rfl)).mp c36) | skip
            unfold f_X11_count_b97
            try (have t40 : ((1 : Int32) + (2 : Int32)).toInt = ((1) + (2)) := (i_add (show (1 : Int32).toInt = 1 from rfl) (show (2 : Int32).toInt = 2 from rfl) (by omega) (by omega)))
            exact hQ ((1 : Int32) + (2 : Int32)) 
      · skip
        first | (have t41 : ¬ (v1.toInt = (2)) := (not_congr (i_eq rfl (show (2 : Int32).toInt = 2 from rfl))).mp c13) | (have t41 : ¬ (v1.toInt = (2 : Int32).toInt) := (not_congr (i_eq rfl rfl)).mp c13) | skip
        refine ⟨fun c42 => ?_, fun c42 => ?_⟩
        · skip
          first | (have t43 : v1.toInt = (3) := (i_eq rfl (show (3 : Int32).toInt = 3 from rfl)).mp c42) | (have t43 : v1.toInt = (3 : Int32).toInt := (i_eq rfl rfl).mp c42) | skip
          intro b44 eb44
          obtain ⟨x45, ex45, kb44⟩ := sh_o w_I.1 kv0 (j := 2) (k := 8) rfl
          cases eb44.symm.trans ex45
          intro b46 eb46
          obtain ⟨x47, ex47, kb46⟩ := sh_o w_I.1 kb44 (j := 4) (k := 4) rfl
          cases eb46.symm.trans ex47
          have t49 : 0 ≤ (I b46 4).toInt ∧ (I b46 4).toInt ≤ 8 := w_I.fld 4 4 kb46 (by decide)
          exact hQ (I b46 4) 
        · skip
          first | (have t50 : ¬ (v1.toInt = (3)) := (not_congr (i_eq rfl (show (3 : Int32).toInt = 3 from rfl))).mp c42) | (have t50 : ¬ (v1.toInt = (3 : Int32).toInt) := (not_congr (i_eq rfl rfl)).mp c42) | skip
          refine ⟨fun c51 => ?_, fun c51 => ?_⟩
          · skip
            first | (have t52 : v1.toInt = (4) := (i_eq rfl (show (4 : Int32).toInt = 4 from rfl)).mp c51) | (have t52 : v1.toInt = (4 : Int32).toInt := (i_eq rfl rfl).mp c51) | skip
            refine s_X11_sumOfPurses w_I v0 kv0   (fun r53  => ?_)
            have rr53 := i_rng r53
            exact hQ r53 
          · skip
            first | (have t54 : ¬ (v1.toInt = (4)) := (not_congr (i_eq rfl (show (4 : Int32).toInt = 4 from rfl))).mp c51) | (have t54 : ¬ (v1.toInt = (4 : Int32).toInt) := (not_congr (i_eq rfl rfl)).mp c51) | skip
            refine ⟨fun c55 => ?_, fun c55 => ?_⟩
            · skip
              first | (have t56 : v1.toInt = (5) := (i_eq rfl (show (5 : Int32).toInt = 5 from rfl)).mp c55) | (have t56 : v1.toInt = (5 : Int32).toInt := (i_eq rfl rfl).mp c55) | skip
              intro b57 eb57
              obtain ⟨x58, ex58, kb57⟩ := sh_o w_I.1 kv0 (j := 2) (k := 8) rfl
              cases eb57.symm.trans ex58
              refine s_X8_sumOfFeuds w_I b57 kb57   (fun r59  => ?_)
              have rr59 := i_rng r59
              exact hQ r59 
            · skip
              first | (have t60 : ¬ (v1.toInt = (5)) := (not_congr (i_eq rfl (show (5 : Int32).toInt = 5 from rfl))).mp c55) | (have t60 : ¬ (v1.toInt = (5 : Int32).toInt) := (not_congr (i_eq rfl rfl)).mp c55) | skip
              refine ⟨fun c61 => ?_, fun c61 => ?_⟩
              · skip
                first | (have t62 : v1.toInt = (6) := (i_eq rfl (show (6 : Int32).toInt = 6 from rfl)).mp c61) | (have t62 : v1.toInt = (6 : Int32).toInt := (i_eq rfl rfl).mp c61) | skip
                have t64 : 0 ≤ (I v0 16).toInt ∧ (I v0 16).toInt ≤ 26 := w_I.fld 11 16 kv0 (by decide)
                exact hQ (I v0 16) 
              · skip
                first | (have t65 : ¬ (v1.toInt = (6)) := (not_congr (i_eq rfl (show (6 : Int32).toInt = 6 from rfl))).mp c61) | (have t65 : ¬ (v1.toInt = (6 : Int32).toInt) := (not_congr (i_eq rfl rfl)).mp c61) | skip
                refine ⟨fun c66 => ?_, fun c66 => ?_⟩
                · skip
                  first | (have t67 : v1.toInt = (7) := (i_eq rfl (show (7 : Int32).toInt = 7 from rfl)).mp c66) | (have t67 : v1.toInt = (7 : Int32).toInt := (i_eq rfl rfl).mp c66) | skip
                  intro b68 eb68
                  obtain ⟨x69, ex69, kb68⟩ := sh_o w_I.1 kv0 (j := 0) (k := 10) rfl
                  cases eb68.symm.trans ex69
                  have t71 : 0 ≤ (I b68 1).toInt ∧ (I b68 1).toInt ≤ 80 := w_I.fld 10 1 kb68 (by decide)
                  exact hQ (I b68 1) 
                · skip
                  first | (have t72 : ¬ (v1.toInt = (7)) := (not_congr (i_eq rfl (show (7 : Int32).toInt = 7 from rfl))).mp c66) | (have t72 : ¬ (v1.toInt = (7 : Int32).toInt) := (not_congr (i_eq rfl rfl)).mp c66) | skip
                  have t73 : (-1 : Int32).toInt = -1 := rfl
                  exact hQ (-1 : Int32) 
set_option maxHeartbeats 4000000 in
set_option maxRecDepth 100000 in
theorem s_X11_row {Z : jZ} {I : jI} {L : jL} (w_I : WD Z I) (v0 : Nat) (v1 : Int32) (kv0 : jk Z v0 11) {Q : Int64 → jI → jL → Prop} (hQ : ∀ (r : Int64), Q r I L) {QX : jI → jL → Prop} (hQX : QX I L) : f_X11_row v0 v1 Z I L Q QX := by
  unfold f_X11_row
  have rv1 := i_rng v1
  refine ⟨fun c1 => ?_, fun c1 => ?_⟩
  · skip
    first | (have t2 : v1.toInt < (0) := (i_lt rfl (show (0 : Int32).toInt = 0 from rfl)).mp c1) | (have t2 : v1.toInt < (0 : Int32).toInt := (i_lt rfl rfl).mp c1) | skip
    exact hQX
  · skip
    first | (have t3 : ¬ (v1.toInt < (0)) := (not_congr (i_lt rfl (show (0 : Int32).toInt = 0 from rfl))).mp c1) | (have t3 : ¬ (v1.toInt < (0 : Int32).toInt) := (not_congr (i_lt rfl rfl)).mp c1) | skip
    have t5 : 0 ≤ (I v0 16).toInt ∧ (I v0 16).toInt ≤ 26 := w_I.fld 11 16 kv0 (by decide)
    refine ⟨fun c6 => ?_, fun c6 => ?_⟩
    · skip
      first | (have t7 : (I v0 16).toInt ≤ v1.toInt := (i_le rfl rfl).mp c6) | (have t7 : (I v0 16).toInt ≤ v1.toInt := (i_le rfl rfl).mp c6) | skip
      exact hQX
    · skip
      first | (have t8 : ¬ ((I v0 16).toInt ≤ v1.toInt) := (not_congr (i_le rfl rfl)).mp c6) | (have t8 : ¬ ((I v0 16).toInt ≤ v1.toInt) := (not_congr (i_le rfl rfl)).mp c6) | skip
      intro b9 eb9
      obtain ⟨x10, ex10, kb9, lb9⟩ := sh_f w_I.1 kv0 (j := 15) (k := 15) (m := 26) rfl
      cases eb9.symm.trans ex10
      refine ⟨fun c11 => ?_, fun c11 => ?_⟩
      · skip
        first | (have t12 : v1.toInt < (26) := (i_lt rfl (show (26 : Int32).toInt = 26 from rfl)).mp c11) | (have t12 : v1.toInt < (26 : Int32).toInt := (i_lt rfl rfl).mp c11) | skip
        intro b13 eb13
        obtain rfl : b9 = b13 := Option.some.inj (eb9.symm.trans eb13)
        have o14 : vp_in v1 26 := vi_of rfl (by omega) (by omega)
        refine ⟨o14, ?_⟩
        exact hQ (L b9 v1.toNatClampNeg) 
      · skip
        first | (have t15 : ¬ (v1.toInt < (26)) := (not_congr (i_lt rfl (show (26 : Int32).toInt = 26 from rfl))).mp c11) | (have t15 : ¬ (v1.toInt < (26 : Int32).toInt) := (not_congr (i_lt rfl rfl)).mp c11) | skip
        exact hQX
end
section
/-! ===== Rows ===== -/
def W7 : List (Nat × Nat) := [(7, 1), (7, 2), (7, 3), (7, 4), (7, 5), (7, 8), (7, 9)]
/-- the first of a place lies within what is filled -/
def FI (Z : jZ) (I : jI) (a p : Nat) : Prop := ∀ b1, jr Z a 1 = some b1 → 0 ≤ (I b1 p).toInt ∧ (I b1 p).toInt ≤ (I a 3).toInt
/-- all other Rows are filled as they were -/
def RO (a : Nat) (Z : jZ) (I I' : jI) : Prop := ∀ x, jk Z x 7 → x ≠ a → I' x 3 = I x 3
theorem RO.rf {a : Nat} {Z : jZ} {I : jI} : RO a Z I I := fun _ _ _ => rfl
theorem RO.trans {a : Nat} {Z Z' : jZ} {I I' I'' : jI} (hx : jext Z Z') (h : RO a Z I I') (h' : RO a Z' I' I'') : RO a Z I I'' := fun x hk hn => (h' x (hx x 7 hk).1 hn).trans (h x hk hn)
/-- what a Rows holds: its arrays, all apart -/
theorem rows_at {Z : jZ} {I : jI} {a : Nat} (w : WD Z I) (ha : jk Z a 7) : ∃ b0 b1 b2 b4 b5, jr Z a 0 = some b0 ∧ jr Z a 1 = some b1 ∧ jr Z a 2 = some b2 ∧ jr Z a 4 = some b4 ∧ jr Z a 5 = some b5
    ∧ jk Z b0 15 ∧ jk Z b1 14 ∧ jk Z b2 14 ∧ jk Z b4 14 ∧ jk Z b5 14 ∧ a ≠ b1 ∧ a ≠ b2 ∧ a ≠ b4 ∧ a ≠ b5 ∧ b1 ≠ b2 ∧ b1 ≠ b4 ∧ b1 ≠ b5 ∧ b2 ≠ b4 ∧ b2 ≠ b5 ∧ b4 ≠ b5 ∧ RI1 Z I a b0 b1 b2 b4 := by
  obtain ⟨b0, e0, k0⟩ := sh_o w.1 ha (j := 0) (k := 15) rfl
  obtain ⟨b1, e1, k1, -⟩ := sh_f w.1 ha (j := 1) (k := 14) (m := 25) rfl
  obtain ⟨b2, e2, k2, -⟩ := sh_f w.1 ha (j := 2) (k := 14) (m := 25) rfl
  obtain ⟨b4, e4, k4, -⟩ := sh_f w.1 ha (j := 4) (k := 14) (m := 3) rfl
  obtain ⟨b5, e5, k5, -⟩ := sh_f w.1 ha (j := 5) (k := 14) (m := 3) rfl
  have ne : ∀ b, jk Z b 14 → a ≠ b := fun b hb q => by
    subst q
    have := ha.2.symm.trans hb.2
    omega
  have un : ∀ i j b b', jr Z a i = some b → jr Z a j = some b' → i ≠ j → b ≠ b' := fun i j b b' h1 h2 hn q => by
    subst q
    exact hn (w.2.1.2.2 a 7 i a 7 j b ha ha h1 h2 (by simp [jsr]) (by simp [jsr])).2
  exact ⟨b0, b1, b2, b4, b5, e0, e1, e2, e4, e5, k0, k1, k2, k4, k5, ne _ k1, ne _ k2, ne _ k4, ne _ k5, un 1 2 _ _ e1 e2 (by decide), un 1 4 _ _ e1 e4 (by decide), un 1 5 _ _ e1 e5 (by decide), un 2 4 _ _ e2 e4 (by decide), un 2 5 _ _ e2 e5 (by decide), un 4 5 _ _ e4 e5 (by decide), w.2.2.2 a b0 b1 b2 b4 ha e0 e1 e2 e4⟩
/-- only the ints of one Rows are changed -/
theorem WD_rows {Z : jZ} {I I' : jI} {a b0 b1 b2 b4 b5 : Nat} (w : WD Z I) (ha : jk Z a 7) (e0 : jr Z a 0 = some b0) (e1 : jr Z a 1 = some b1) (e2 : jr Z a 2 = some b2) (e4 : jr Z a 4 = some b4) (e5 : jr Z a 5 = some b5)
    (hx : ∀ x, x ≠ a → x ≠ b1 → x ≠ b2 → x ≠ b4 → x ≠ b5 → I' x = I x) (hj : ∀ j, j ≠ 3 → j ≠ 8 → j ≠ 9 → I' a j = I a j) (h : RI1 Z I' a b0 b1 b2 b4) : WD Z I' ∧ FR W7 Z I Z I' ∧ RO a Z I I' := by
  obtain ⟨_, _, _, _, _, f0, f1, f2, f4, f5, k0, k1, k2, k4, k5, n1, n2, n4, n5, -⟩ := rows_at w ha
  cases e0.symm.trans f0; cases e1.symm.trans f1; cases e2.symm.trans f2; cases e4.symm.trans f4; cases e5.symm.trans f5
  have hf : ∀ x c, jk Z x c → c < 13 → x ≠ a → I' x = I x := fun x c hk hc hn => by
    have nk : ∀ b, jk Z b 14 → x ≠ b := fun b hb q => by
      subst q
      have := hk.2.symm.trans hb.2
      omega
    exact hx x hn (nk _ k1) (nk _ k2) (nk _ k4) (nk _ k5)
  have hr : ∀ x c j b, jk Z x c → jr Z x j = some b → jia (Z.2.1 b) = true → jsr c j = false → (c, j) ∉ W7 → I' b = I b := fun x c j b hk e k hs hn => by
    have hu : ∀ i b', jr Z a i = some b' → jsr 7 i = false → (7, i) ∈ W7 → b ≠ b' := fun i b' h1 h2 h3 q => by
      subst q
      obtain ⟨rfl, rfl⟩ := w.2.1.2.2 x c j a 7 i b hk ha e h1 hs h2
      cases hk.2.symm.trans ha.2
      exact hn h3
    have hna : b ≠ a := fun q => by
      subst q
      have := jia_13 k
      have := ha.2
      omega
    exact hx b hna (hu 1 _ e1 rfl (by decide)) (hu 2 _ e2 rfl (by decide)) (hu 4 _ e4 rfl (by decide)) (hu 5 _ e5 rfl (by decide))
  have hR : ∀ x c j b, jk Z x c → jr Z x j = some b → jia (Z.2.1 b) = true → jsr c j = false → x ≠ a → I' b = I b := fun x c j b hk e k hs hn => by
    have hu : ∀ i b', jr Z a i = some b' → jsr 7 i = false → b ≠ b' := fun i b' h1 h2 q => by
      subst q
      exact hn (w.2.1.2.2 x c j a 7 i b hk ha e h1 hs h2).1
    have hna : b ≠ a := fun q => by
      subst q
      have := jia_13 k
      have := ha.2
      omega
    exact hx b hna (hu 1 _ e1 rfl) (hu 2 _ e2 rfl) (hu 4 _ e4 rfl) (hu 5 _ e5 rfl)
  have hF : FR W7 Z I Z I' := by
    refine ⟨jext_rfl, fun _ _ _ _ _ _ => rfl, fun x c j hk hc hn => ?_, fun x c j b hk e k hs hn => hr x c j b hk e k hs hn⟩
    by_cases q : x = a
    · subst q
      cases hk.2.symm.trans ha.2
      refine hj j ?_ ?_ ?_
      · intro e; subst e; exact hn (by decide)
      · intro e; subst e; exact hn (by decide)
      · intro e; subst e; exact hn (by decide)
    · rw [hf x c hk hc q]
  refine ⟨⟨w.1, w.2.1, ⟨fun x c j hk hc => ?_, fun x c j b hk e k hs i => ?_⟩, ?_⟩, hF, fun x hk hn => by rw [hf x 7 hk (by decide) hn]⟩
  · by_cases q : x = a
    · subst q
      cases hk.2.symm.trans ha.2
      trivial
    · rw [hf x c hk hc q]
      exact w.2.2.1.1 x c j hk hc
  · by_cases q : x = a
    · subst q
      cases hk.2.symm.trans ha.2
      trivial
    · rw [hR x c j b hk e k hs q]
      exact w.2.2.1.2 x c j b hk e k hs i
  · intro x c0 c1 c2 c4 hk g0 g1 g2 g4
    by_cases q : x = a
    · subst q
      cases e0.symm.trans g0; cases e1.symm.trans g1; cases e2.symm.trans g2; cases e4.symm.trans g4
      exact h
    · have old := w.2.2.2 x c0 c1 c2 c4 hk g0 g1 g2 g4
      obtain ⟨_, _, _, _, _, f0', f1', f2', f4', f5', k0', k1', k2', k4', k5', -⟩ := rows_at w hk
      cases g0.symm.trans f0'; cases g1.symm.trans f1'; cases g2.symm.trans f2'; cases g4.symm.trans f4'
      unfold RI1 at old ⊢
      rw [hf x 7 hk (by decide) q, hR x 7 1 c1 hk g1 (by rw [k1'.2]; rfl) rfl q, hR x 7 2 c2 hk g2 (by rw [k2'.2]; rfl) rfl q, hR x 7 4 c4 hk g4 (by rw [k4'.2]; rfl) rfl q]
      exact old
theorem i_clamp {x : Int32} {n : Nat} (h0 : 0 ≤ x.toInt) (h1 : x.toInt < (n : Int)) : x.toNatClampNeg < n := by
  have := i_nat (x := x) rfl h0
  omega
theorem s_X7_start {Z : jZ} {I : jI} {L : jL} (w_I : WD Z I) (v0 : Nat) (v1 : Int32) (kv0 : jk Z v0 7) (p0 : 0 ≤ v1.toInt ∧ v1.toInt ≤ 24) {Q : jI → jL → Prop}
    (hQ : ∀ (I' : jI) (L' : jL), WD Z I' → FR W7 Z I Z I' → ((I' v0 3).toInt = (I v0 3).toInt ∧ FI Z I' v0 v1.toNatClampNeg ∧ RO v0 Z I I') → Q I' L') : f_X7_start v0 v1 Z I L Q := by
  obtain ⟨b0, b1, b2, b4, b5, e0, e1, e2, e4, e5, k0, k1, k2, k4, k5, n1, n2, n4, n5, n12, n14, n15, n24, n25, n45, r1, r2, r3, r4, r5, r6⟩ := rows_at w_I kv0
  have hp : v1.toNatClampNeg < 25 := i_clamp p0.1 (by omega)
  have hi : vp_in v1 25 := vi_of rfl (by omega) (by omega)
  unfold f_X7_start
  have z0 : (0 : Int32).toInt = 0 := rfl
  have end_ : ∀ I5 : jI, I5 = jpI (jpI I b1 v1.toNatClampNeg (I v0 3)) b2 v1.toNatClampNeg (0 : Int32) → f_X7_start_b27 Z Q v0 I5 L := by
    intro I5 e
    unfold f_X7_start_b27
    intro I6 e6 I7 e7
    have a3 : I7 v0 3 = I v0 3 := by rw [e7, jpI_off (by decide), e6, jpI_off (by decide), e, jpI_ne n2, jpI_ne n1]
    have a8 : I7 v0 8 = 0 := by rw [e7, jpI_off (by decide), e6, jpI_at]
    have a9 : I7 v0 9 = 0 := by rw [e7, jpI_at]
    have c2 : ∀ p, I7 b2 p = if p = v1.toNatClampNeg then 0 else I b2 p := fun p => by
      rw [e7, jpI_ne n2.symm, e6, jpI_ne n2.symm, e]
      by_cases q : p = v1.toNatClampNeg
      · rw [if_pos q, q, jpI_at]
      · rw [if_neg q, jpI_off q, jpI_ne n12.symm]
    have c1 : ∀ p, I7 b1 p = if p = v1.toNatClampNeg then I v0 3 else I b1 p := fun p => by
      rw [e7, jpI_ne n1.symm, e6, jpI_ne n1.symm, e, jpI_ne n12]
      by_cases q : p = v1.toNatClampNeg
      · rw [if_pos q, q, jpI_at]
      · rw [if_neg q, jpI_off q]
    obtain ⟨g1, g2, g3⟩ := WD_rows (I' := I7) w_I kv0 e0 e1 e2 e4 e5 (fun x x0 x1 x2 x4 x5 => by rw [e7, jpI_ne x0, e6, jpI_ne x0, e, jpI_ne x2, jpI_ne x1]) (fun j j3 j8 j9 => by rw [e7, jpI_off j9, e6, jpI_off j8, e, jpI_ne n2, jpI_ne n1]) (by
      unfold RI1
      rw [a3, a8, a9, z0]
      refine ⟨r1, r2, r3, fun p hp => ?_, by omega, fun p hp => by omega⟩
      rw [c1, c2]
      by_cases q : p = v1.toNatClampNeg
      · rw [if_pos q, if_pos q, z0]; omega
      · rw [if_neg q, if_neg q]; exact r4 p hp)
    refine hQ I7 L g1 g2 ⟨by rw [a3], fun b hb => ?_, g3⟩
    cases e1.symm.trans hb
    rw [c1, if_pos rfl, a3]
    omega
  refine ⟨fun c => absurd ((i_lt rfl z0).mp c) (by omega), fun _ => ⟨fun c => absurd ((i_le (show (25 : Int32).toInt = 25 from rfl) rfl).mp c) (by omega), fun _ => ?_⟩⟩
  intro b h
  cases e1.symm.trans h
  refine ⟨hi, fun I1 q1 b h => ?_⟩
  cases e2.symm.trans h
  refine ⟨hi, fun I2 q2 => end_ I2 ?_⟩
  rw [q2, q1]
theorem s_X7_sizeAt {Z : jZ} {I : jI} {L : jL} (w_I : WD Z I) (v0 : Nat) (v1 : Int32) (kv0 : jk Z v0 7) {Q : Int32 → jI → jL → Prop}
    (hQ : ∀ (r : Int32), (0 ≤ r.toInt ∧ r.toInt ≤ (I v0 3).toInt ∧ (0 < r.toInt → 0 ≤ v1.toInt ∧ v1.toInt ≤ 24 ∧ ∀ b1, jr Z v0 1 = some b1 → 0 ≤ (I b1 v1.toNatClampNeg).toInt ∧ (I b1 v1.toNatClampNeg).toInt + r.toInt ≤ (I v0 3).toInt)) → Q r I L) : f_X7_sizeAt v0 v1 Z I L Q := by
  obtain ⟨b0, b1, b2, b4, b5, e0, e1, e2, e4, e5, k0, k1, k2, k4, k5, n1, n2, n4, n5, n12, n14, n15, n24, n25, n45, r1, r2, r3, r4, r5, r6⟩ := rows_at w_I kv0
  have z0 : (0 : Int32).toInt = 0 := rfl
  have rv := i_rng v1
  unfold f_X7_sizeAt
  have no : Q 0 I L := hQ 0 (by rw [z0]; omega)
  refine ⟨fun _ => no, fun c => ⟨fun _ => no, fun c2 => ?_⟩⟩
  have h0 := (not_congr (i_lt rfl z0)).mp c
  have h1 := (not_congr (i_le (show (25 : Int32).toInt = 25 from rfl) rfl)).mp c2
  intro b h
  cases e2.symm.trans h
  have hp : v1.toNatClampNeg < 25 := i_clamp (by omega) (by omega)
  have := r4 _ hp
  refine ⟨vi_of rfl (by omega) (by omega), hQ _ ⟨this.1, ?_, fun g => ⟨by omega, by omega, fun b hb => ?_⟩⟩⟩
  · by_cases q : 0 < (I b2 v1.toNatClampNeg).toInt
    · have := this.2 q; omega
    · omega
  · cases e1.symm.trans hb
    exact this.2 g
theorem s_X7_keyAt {Z : jZ} {I : jI} {L : jL} (w_I : WD Z I) (v0 : Nat) (v1 v2 : Int32) (kv0 : jk Z v0 7) {Q : Int64 → jI → jL → Prop} (hQ : ∀ (r : Int64), Q r I L) : f_X7_keyAt v0 v1 v2 Z I L Q := by
  obtain ⟨b0, b1, b2, b4, b5, e0, e1, e2, e4, e5, k0, k1, k2, k4, k5, n1, n2, n4, n5, n12, n14, n15, n24, n25, n45, r1, r2, r3, r4, r5, r6⟩ := rows_at w_I kv0
  have z0 : (0 : Int32).toInt = 0 := rfl
  have no : f_X7_keyAt_b29 Z Q I L := by unfold f_X7_keyAt_b29; exact hQ _
  unfold f_X7_keyAt
  refine ⟨fun _ => no, fun c => s_X7_sizeAt w_I v0 v1 kv0 (fun r pr => ⟨fun _ => no, fun c2 => ?_⟩)⟩
  have h0 := (not_congr (i_lt rfl z0)).mp c
  have h1 := (not_congr (i_le rfl rfl)).mp c2
  intro b h
  cases e0.symm.trans h
  intro b h
  cases e1.symm.trans h
  have g := pr.2.2 (by omega)
  have g1 := g.2.2 b1 e1
  have t := i_add (x := I b1 v1.toNatClampNeg) (y := v2) rfl rfl (by omega) (by omega)
  exact ⟨vi_of rfl (by omega) (by omega), vi_of t (by omega) (by omega), hQ _⟩
theorem s_X7_merge {Z : jZ} {I : jI} {L : jL} (w_I : WD Z I) (v0 : Nat) (v1 : Int32) (v2 : Int64) (kv0 : jk Z v0 7) {Q : jI → jL → Prop}
    (hQ : ∀ (I' : jI) (L' : jL), WD Z I' → FR W7 Z I Z I' → ((I' v0 3).toInt = (I v0 3).toInt ∧ (∀ p, FI Z I v0 p → FI Z I' v0 p) ∧ RO v0 Z I I') → Q I' L') : f_X7_merge v0 v1 v2 Z I L Q := by
  obtain ⟨b0, b1, b2, b4, b5, e0, e1, e2, e4, e5, k0, k1, k2, k4, k5, n1, n2, n4, n5, n12, n14, n15, n24, n25, n45, r1, r2, r3, r4, r5, r6⟩ := rows_at w_I kv0
  have z0 : (0 : Int32).toInt = 0 := rfl
  have z1 : (1 : Int32).toInt = 1 := rfl
  have no : Q I L := hQ I L w_I FR.rf ⟨rfl, fun _ h => h, fun _ _ _ => rfl⟩
  unfold f_X7_merge
  refine s_X7_sizeAt w_I v0 v1 kv0 (fun r pr => ⟨fun _ => no, fun c => ⟨fun _ => no, fun c2 => ?_⟩⟩)
  have h0 := (not_congr (i_le rfl z0)).mp c
  have h1 := (not_congr (i_le (show (3 : Int32).toInt = 3 from rfl) rfl)).mp c2
  have g := pr.2.2 (by omega)
  have g1 := g.2.2 b1 e1
  have vi1 : vp_in v1 25 := vi_of rfl (by omega) (by omega)
  have hm := i_nat (x := I v0 8) rfl (by omega)
  intro b h; cases e4.symm.trans h
  intro b h; cases e1.symm.trans h
  refine ⟨vi1, vi_of rfl (by omega) (by omega), fun I1 q1 => ?_⟩
  have a8 : I1 v0 8 = I v0 8 := by rw [q1, jpI_ne n4]
  intro b h; cases e5.symm.trans h
  intro b h; cases e1.symm.trans h
  refine ⟨vi1, vi_of (by rw [a8]) (by omega) (by omega), fun I2 q2 => ?_⟩
  have a8 : I2 v0 8 = I v0 8 := by rw [q2, jpI_ne n5, a8]
  obtain ⟨b6, e6, k6, l6⟩ := sh_f w_I.1 kv0 (j := 6) (k := 15) (m := 3) rfl
  obtain ⟨b7, e7, k7, l7⟩ := sh_f w_I.1 kv0 (j := 7) (k := 15) (m := 3) rfl
  intro b h; cases e6.symm.trans h
  refine ⟨vi_of (by rw [a8]) (by omega) (by omega), fun L3 q3 => ?_⟩
  intro b h; cases e7.symm.trans h
  intro b h; cases e0.symm.trans h
  intro b h; cases e1.symm.trans h
  have f1 : I2 b1 v1.toNatClampNeg = I b1 v1.toNatClampNeg := by rw [q2, jpI_ne n15, q1, jpI_ne n14]
  refine ⟨vi1, vi_of (by rw [f1]) (by omega) (by omega), vi_of (by rw [a8]) (by omega) (by omega), fun L4 q4 I5 q5 I6 q6 => ?_⟩
  have a3 : I6 v0 3 = I v0 3 := by rw [q6, jpI_off (by decide), q5, jpI_off (by decide), q2, jpI_ne n5, q1, jpI_ne n4]
  have t8 : (I6 v0 8).toInt = (I v0 8).toInt + 1 := by
    rw [q6, jpI_off (by decide), q5, jpI_at, a8]
    exact i_add rfl z1 (by omega) (by omega)
  have t9 : (I6 v0 9).toInt = (I v0 9).toInt + r.toInt := by
    rw [q6, jpI_at, q5, jpI_off (by decide), q2, jpI_ne n5, q1, jpI_ne n4]
    exact i_add rfl rfl (by omega) (by omega)
  have c1 : I6 b1 = I b1 := by rw [q6, jpI_ne n1.symm, q5, jpI_ne n1.symm, q2, jpI_ne n15, q1, jpI_ne n14]
  have c2 : I6 b2 = I b2 := by rw [q6, jpI_ne n2.symm, q5, jpI_ne n2.symm, q2, jpI_ne n25, q1, jpI_ne n24]
  have c4 : ∀ p, I6 b4 p = if p = (I v0 8).toNatClampNeg then I b1 v1.toNatClampNeg else I b4 p := fun p => by
    rw [q6, jpI_ne n4.symm, q5, jpI_ne n4.symm, q2, jpI_ne n45, q1]
    by_cases q : p = (I v0 8).toNatClampNeg
    · rw [if_pos q, q, jpI_at]
    · rw [if_neg q, jpI_off q]
  obtain ⟨g1', g2', g3'⟩ := WD_rows (I' := I6) w_I kv0 e0 e1 e2 e4 e5 (fun x x0 x1 x2 x4 x5 => by rw [q6, jpI_ne x0, q5, jpI_ne x0, q2, jpI_ne x5, q1, jpI_ne x4]) (fun j j3 j8 j9 => by rw [q6, jpI_off j9, q5, jpI_off j8, q2, jpI_ne n5, q1, jpI_ne n4]) (by
    unfold RI1
    rw [a3, t8, t9, c1, c2]
    refine ⟨r1, r2, r3, r4, by omega, fun p hp => ?_⟩
    rw [c4]
    by_cases q : p = (I v0 8).toNatClampNeg
    · rw [if_pos q]; omega
    · rw [if_neg q]
      have := r6 p (by omega)
      omega)
  exact hQ I6 L4 g1' g2' ⟨by rw [a3], fun p hp b hb => by rw [a3]; cases e1.symm.trans hb; rw [c1]; exact hp b1 e1, g3'⟩
set_option maxHeartbeats 1000000 in
theorem l_X7_take {Z : jZ} {I : jI} {L : jL} (w_I : WD Z I) (v0 : Nat) (kv0 : jk Z v0 7) {Q : Int64 → jI → jL → Prop}
    (hQ : ∀ (r : Int64) (I' : jI) (L' : jL), WD Z I' → FR W7 Z I Z I' → ((I' v0 3).toInt = (I v0 3).toInt ∧ (∀ p, FI Z I v0 p → FI Z I' v0 p) ∧ RO v0 Z I I') → Q r I' L') :
    ∀ (n : Nat) (v1 v2 : Int32), (0 ≤ v1.toInt ∧ v1.toInt ≤ 2 ∧ 1 ≤ v2.toInt ∧ v2.toInt ≤ 3 ∧ (v1.toInt < (I v0 8).toInt ∨ v1.toInt = 0)) → 3 - v2.toInt < (n : Int) → f_X7_take_L4 Z Q n v0 v1 v2 I L := by
  obtain ⟨b0, b1, b2, b4, b5, e0, e1, e2, e4, e5, k0, k1, k2, k4, k5, n1, n2, n4, n5, n12, n14, n15, n24, n25, n45, r1, r2, r3, r4, r5, r6⟩ := rows_at w_I kv0
  have z0 : (0 : Int32).toInt = 0 := rfl
  have z1 : (1 : Int32).toInt = 1 := rfl
  obtain ⟨b6, e6, k6, l6⟩ := sh_f w_I.1 kv0 (j := 6) (k := 15) (m := 3) rfl
  obtain ⟨b7, e7, k7, l7⟩ := sh_f w_I.1 kv0 (j := 7) (k := 15) (m := 3) rfl
  intro n
  induction n with
  | zero => intro v1 v2 li me; exfalso; omega
  | succ n ih =>
    intro v1 v2 li me
    unfold f_X7_take_L4
    refine ⟨fun c => ⟨fun c2 => ?_, fun c2 => hQ _ I L w_I FR.rf ⟨rfl, fun _ h => h, fun _ _ _ => rfl⟩⟩, fun c => ?_⟩
    · have hw := (not_congr (i_eq rfl z0)).mp c2
      have vi : vp_in v1 3 := vi_of rfl (by omega) (by omega)
      have hv := i_nat (x := v1) rfl (by omega)
      intro b h; cases e7.symm.trans h
      refine ⟨vi, fun x9 ex9 => ?_⟩
      intro b h; cases e4.symm.trans h
      refine ⟨vi, vi, fun I1 q1 => ?_⟩
      have h6 := r6 v1.toNatClampNeg (by omega)
      have t1 := i_add (x := I b4 v1.toNatClampNeg) rfl z1 (by omega) (by omega)
      have last : ∀ (L1 : jL) (s2 : Int64), f_X7_take_b122 Z Q v0 x9 b7 v1 s2 I1 L1 := fun L1 s2 => by
        unfold f_X7_take_b122
        refine ⟨vi_of rfl (by omega) (by omega), fun L2 q2 I3 q3 => ?_⟩
        have a3 : I3 v0 3 = I v0 3 := by rw [q3, jpI_off (by decide), q1, jpI_ne n4]
        have a8 : I3 v0 8 = I v0 8 := by rw [q3, jpI_off (by decide), q1, jpI_ne n4]
        have t9 : (I3 v0 9).toInt = (I v0 9).toInt - 1 := by
          rw [q3, jpI_at, q1, jpI_ne n4]
          exact i_sub rfl z1 (by omega) (by omega)
        have c1 : I3 b1 = I b1 := by rw [q3, jpI_ne n1.symm, q1, jpI_ne n14]
        have c2 : I3 b2 = I b2 := by rw [q3, jpI_ne n2.symm, q1, jpI_ne n24]
        have c4 : ∀ p, (I3 b4 p).toInt = if p = v1.toNatClampNeg then (I b4 v1.toNatClampNeg).toInt + 1 else (I b4 p).toInt := fun p => by
          rw [q3, jpI_ne n4.symm, q1]
          by_cases q : p = v1.toNatClampNeg
          · rw [if_pos q, q, jpI_at]; exact t1
          · rw [if_neg q, jpI_off q]
        obtain ⟨g1', g2', g3'⟩ := WD_rows (I' := I3) w_I kv0 e0 e1 e2 e4 e5 (fun x x0 x1 x2 x4 x5 => by rw [q3, jpI_ne x0, q1, jpI_ne x4]) (fun j j3 j8 j9 => by rw [q3, jpI_off j9, q1, jpI_ne n4]) (by
          unfold RI1
          rw [a3, a8, t9, c1, c2]
          refine ⟨r1, r2, r3, r4, by omega, fun p hp => ?_⟩
          rw [c4]
          by_cases q : p = v1.toNatClampNeg
          · rw [if_pos q]; omega
          · rw [if_neg q]
            have := r6 p hp
            omega)
        exact hQ _ I3 L2 g1' g2' ⟨by rw [a3], fun p hp b hb => by rw [a3]; cases e1.symm.trans hb; rw [c1]; exact hp b1 e1, g3'⟩
      intro b h; cases e4.symm.trans h
      refine ⟨vi, fun x16 ex16 => ?_⟩
      have tx : x16.toInt = (I b4 v1.toNatClampNeg).toInt + 1 := by rw [ex16, q1, jpI_at]; exact t1
      intro b h; cases e7.symm.trans h
      intro b h; cases e5.symm.trans h
      refine ⟨vi, fun _ => by unfold f_X7_take_b119; exact last L _, fun c3 => ?_⟩
      intro b h; cases e0.symm.trans h
      refine ⟨fun _ => by unfold f_X7_take_b119; exact last L _, fun c4 => ?_⟩
      have h4 := (not_congr (i_le (i_nI (by omega)) rfl)).mp c4
      intro b h; cases e0.symm.trans h
      refine ⟨vi_of rfl (by omega) (by omega), ?_⟩
      intro b h; cases e6.symm.trans h
      exact ⟨vi, last L _⟩
    · have h8 := (not_congr (i_le rfl rfl)).mp c
      intro b h; cases e7.symm.trans h
      refine ⟨vi_of rfl (by omega) (by omega), ?_⟩
      intro b h; cases e7.symm.trans h
      have nx : ∀ x : Int32, x = v2 + 1 → x.toInt = v2.toInt + 1 := fun x ex => by rw [ex]; exact i_add rfl z1 (by omega) (by omega)
      refine ⟨vi_of rfl (by omega) (by omega), fun _ => ?_, fun _ => ?_⟩
      · unfold f_X7_take_b33
        intro x ex
        have := nx x ex
        exact ih v1 x (by omega) (by omega)
      · unfold f_X7_take_b33
        intro x ex
        have := nx x ex
        exact ih v2 x (by omega) (by omega)
theorem s_X7_take {Z : jZ} {I : jI} {L : jL} (w_I : WD Z I) (v0 : Nat) (kv0 : jk Z v0 7) {Q : Int64 → jI → jL → Prop}
    (hQ : ∀ (r : Int64) (I' : jI) (L' : jL), WD Z I' → FR W7 Z I Z I' → ((I' v0 3).toInt = (I v0 3).toInt ∧ (∀ p, FI Z I v0 p → FI Z I' v0 p) ∧ RO v0 Z I I') → Q r I' L') : f_X7_take v0 Z I L Q := by
  unfold f_X7_take
  have z0 : (0 : Int32).toInt = 0 := rfl
  have z1 : (1 : Int32).toInt = 1 := rfl
  exact ⟨3, l_X7_take w_I v0 kv0 hQ 3 0 1 (by omega) (by omega)⟩
theorem rw0 {Z : jZ} {I : jI} {a b : Nat} (w : WD Z I) (ha : jk Z a 7) (e : jr Z a 0 = some b) : 0 ≤ (I a 3).toInt ∧ (I a 3).toInt ≤ (jlen Z b : Int) ∧ jlen Z b ≤ 1048576 ∧ 64 ≤ jlen Z b := by
  obtain ⟨b0, b1, b2, b4, b5, e0, e1, e2, e4, e5, -, -, -, -, -, -, -, -, -, -, -, -, -, -, -, r1, -⟩ := rows_at w ha
  cases e0.symm.trans e
  exact r1
theorem rw3 {Z : jZ} {I : jI} {a : Nat} (w : WD Z I) (ha : jk Z a 7) : 0 ≤ (I a 3).toInt ∧ (I a 3).toInt ≤ 1048576 := by
  obtain ⟨b0, b1, b2, b4, b5, e0, e1, e2, e4, e5, -, -, -, -, -, -, -, -, -, -, -, -, -, -, -, r1, -⟩ := rows_at w ha
  omega
theorem rw9 {Z : jZ} {I : jI} {a : Nat} (w : WD Z I) (ha : jk Z a 7) : 0 ≤ (I a 9).toInt ∧ (I a 9).toInt ≤ 3145728 := by
  obtain ⟨b0, b1, b2, b4, b5, e0, e1, e2, e4, e5, -, -, -, -, -, -, -, -, -, -, -, -, -, -, -, -, -, -, -, r5, -⟩ := rows_at w ha
  omega
theorem capN0 {Z : jZ} {a b : Nat} (ha : jk Z a 0) (e : jr Z a 0 = some b) : capN Z b = 1048576 := by
  unfold capN
  exact if_pos ⟨a, ha, e⟩
/-- Arrays.fill, exactly -/
theorem fill_raw {Z : jZ} {v0 : Nat} {v1 : Int32} {Q : jI → jL → Prop} (hl : jlen Z v0 ≤ 1000000) {I : jI} {L : jL} (hQ : ∀ (I' : jI), (∀ x, x ≠ v0 → I' x = I x) → (∀ p, p < jlen Z v0 → I' v0 p = v1) → Q I' L) : f_J7_fill_53178 v0 v1 Z I L Q := by
  unfold f_J7_fill_53178
  have z0 : (0 : Int32).toInt = 0 := rfl
  have z1 : (1 : Int32).toInt = 1 := rfl
  have tl := i_nI (n := jlen Z v0) (by omega)
  have key : ∀ (n : Nat) (v2 : Int32) (I2 : jI), 0 ≤ v2.toInt → v2.toInt ≤ (jlen Z v0 : Int) → (∀ x, x ≠ v0 → I2 x = I x) → (∀ p : Nat, (p : Int) < v2.toInt → I2 v0 p = v1) → (jlen Z v0 : Int) - v2.toInt < (n : Int) → ∀ v3 : Int32, v3.toInt = (jlen Z v0 : Int) → f_J7_fill_53178_L5 Z Q n v0 v1 v2 v3 I2 L := by
    intro n
    induction n with
    | zero => intro v2 I2 h0 h1 h2 h3 h4 v3 h5; exfalso; omega
    | succ n ih =>
      intro v2 I2 h0 h1 h2 h3 h4 v3 h5
      unfold f_J7_fill_53178_L5
      refine ⟨fun c => ?_, fun c => ?_⟩
      · have := (i_le rfl rfl).mp c
        exact hQ I2 h2 (fun p hp => h3 p (by omega))
      · have := (not_congr (i_le rfl rfl)).mp c
        refine ⟨vi_of rfl (by omega) (by omega), fun I3 q3 x ex => ?_⟩
        have tx : x.toInt = v2.toInt + 1 := by rw [ex]; exact i_add rfl z1 (by omega) (by omega)
        have tn := i_nat (x := v2) rfl h0
        refine ih x I3 (by omega) (by omega) (fun y hy => by rw [q3, jpI_ne hy]; exact h2 y hy) (fun p hp => ?_) (by omega) v3 h5
        rw [q3]
        by_cases q : p = v2.toNatClampNeg
        · rw [q, jpI_at]
        · rw [jpI_off q]; exact h3 p (by omega)
  intro v3 e3
  exact ⟨jlen Z v0 + 1, key _ 0 I (by omega) (by omega) (fun _ _ => rfl) (fun p hp => by omega) (by omega) v3 (by rw [e3]; exact tl)⟩
end
