section
def Ws_X12_take : List (Nat × Nat) := [(12, 66)]
set_option maxHeartbeats 4000000 in
set_option maxRecDepth 100000 in
theorem s_X12_take {Z : jZ} {I : jI} {L : jL} (w_I : WD Z I) (v0 : Nat) (kv0 : jk Z v0 12) (p0 : 0 ≤ (I v0 66).toInt ∧ (I v0 66).toInt ≤ 531) {Q : Int32 → jI → jL → Prop} (hQ : ∀ (r : Int32) (I' : jI) (L' : jL), WD Z I' → FR Ws_X12_take Z I Z I' → ((I' v0 66).toInt = (I v0 66).toInt + 1 ∧ okA 12 62 (I v0 66).toNatClampNeg r) → Q r I' L') : f_X12_take v0 Z I L Q := by
  unfold f_X12_take
  have q_I : FR Ws_X12_take Z I Z I := FR.rf
  intro I1 eI1
  try (have t2 : ((I v0 66) + (1 : Int32)).toInt = ((I v0 66).toInt + (1)) := (i_add rfl (show (1 : Int32).toInt = 1 from rfl) (by omega) (by omega)))
  have w_I1 : WD Z I1 := by rw [eI1]; exact WD_putF w_I 12 66 kv0 (by decide) (by decide) trivial
  have f_I1 : FR [(12, 66)] Z I Z I1 := by rw [eI1]; exact FR_putF kv0 (by decide) List.mem_cons_self
  have q_I1 : FR Ws_X12_take Z I Z I1 := q_I.trans w_I.1 w_I.2.1 (f_I1.mono (by decide))
  first | (have u3 : (I1 v0 66).toInt = ((I v0 66).toInt + (1)) := by (rw [eI1, show jpI I v0 66 ((I v0 66) + (1 : Int32)) v0 66 = ((I v0 66) + (1 : Int32)) from jpI_at] <;> exact (i_add rfl (show (1 : Int32).toInt = 1 from rfl) (by omega) (by omega)))) | skip
  intro b4 eb4
  obtain ⟨x5, ex5, kb4, lb4⟩ := sh_f w_I1.1 kv0 (j := 62) (k := 14) (m := 532) rfl
  cases eb4.symm.trans ex5
  have o6 : vp_in ((I1 v0 66) - (1 : Int32)) 532 := vi_of (i_sub rfl (show (1 : Int32).toInt = 1 from rfl) (by omega) (by omega)) (by omega) (by omega)
  refine ⟨o6, ?_⟩
  exact hQ (I1 b4 ((I1 v0 66) - (1 : Int32)).toNatClampNeg) I1 L w_I1 q_I1 (by refine ⟨by omega, ?_⟩; have e9 : ((I1 v0 66) - (1 : Int32)).toNatClampNeg = (I v0 66).toNatClampNeg := (by have h1 := i_nat (x := (I1 v0 66) - (1 : Int32)) (i_sub rfl (show (1 : Int32).toInt = 1 from rfl) (by omega) (by omega)) (by omega); have h2 := i_nat (x := I v0 66) rfl (by omega); omega); rw [← e9]; exact w_I1.arr 12 62 kv0 eb4 kb4 rfl rfl _)
def Ws_X12_keep : List (Nat × Nat) := [(12, 22), (12, 62), (12, 63), (12, 64), (12, 65), (12, 66)]
set_option maxHeartbeats 4000000 in
set_option maxRecDepth 100000 in
theorem l_X12_keep_L157 {Z : jZ} {I0 : jI} {Q : Int32 → jI → jL → Prop} (w0 : WD Z I0) (v0 : Nat) (v1 : Int32) (kv0 : jk Z v0 12) (hQ : ∀ (r : Int32) (I' : jI) (L' : jL), WD Z I' → FR Ws_X12_keep Z I0 Z I' → ((r.toInt = 1 ∧ 0 ≤ v1.toInt ∧ v1.toInt ≤ 1) ∨ (r.toInt = 0 ∧ ¬ (0 ≤ v1.toInt ∧ v1.toInt ≤ 1))) → Q r I' L') : ∀ (n : Nat) (v2 : Int32) (I : jI) (L : jL), WD Z I → FR Ws_X12_keep Z I0 Z I →   (0 ≤ v2.toInt ∧ v2.toInt ≤ 8 ∧ (I v0 66).toInt = 266 * v1.toInt + 258 + 1 * v2.toInt ∧ 0 ≤ v1.toInt ∧ v1.toInt ≤ 1) → 8 - v2.toInt < (n : Int) → f_X12_keep_L157  Z Q n v0 v2 I L := by
  intro n
  induction n with
  | zero =>
    intro v2 I L w_I q_I   li  me
    exfalso
    omega
  | succ n ih =>
    intro v2 I L w_I q_I   li  me
    unfold f_X12_keep_L157
    have rv2 := i_rng v2
    have rv1 := i_rng v1
    refine ⟨fun c1 => ?_, fun c1 => ?_⟩
    · skip
      first | (have t2 : (8) ≤ v2.toInt := (i_le (show (8 : Int32).toInt = 8 from rfl) rfl).mp c1) | (have t2 : (8 : Int32).toInt ≤ v2.toInt := (i_le rfl rfl).mp c1) | skip
      have t3 : (1 : Int32).toInt = 1 := rfl
      exact hQ (1 : Int32) I L w_I q_I (by omega)
    · skip
      first | (have t4 : ¬ ((8) ≤ v2.toInt) := (not_congr (i_le (show (8 : Int32).toInt = 8 from rfl) rfl)).mp c1) | (have t4 : ¬ ((8 : Int32).toInt ≤ v2.toInt) := (not_congr (i_le rfl rfl)).mp c1) | skip
      intro b5 eb5
      obtain ⟨x6, ex6, kb5, lb5⟩ := sh_f w_I.1 kv0 (j := 17) (k := 14) (m := 8) rfl
      cases eb5.symm.trans ex6
      have o7 : vp_in v2 8 := vi_of rfl (by omega) (by omega)
      refine ⟨o7, ?_⟩
      refine s_X12_put w_I v0 (I b5 v2.toNatClampNeg) kv0  (by omega) (by exact ptF (k := v1.toInt) (m := (I v0 66).toInt - 266 * v1.toInt) (by omega) (by omega) (by omega) (by refine ⟨?_, ?_, ?_⟩ <;> intros <;> (constructor <;> omega))) (fun  I9 L10 w_I9 f_I9 p8 => ?_)
      have q_I9 : FR Ws_X12_keep Z I0 Z I9 := q_I.trans w0.1 w0.2.1 (f_I9.mono (by decide))
      intro x11 ex11
      have rx11 := i_rng x11
      first | (have tx11 : x11.toInt = v2.toInt + (1) := by (rw [ex11]; exact (i_add rfl (show (1 : Int32).toInt = 1 from rfl) (by omega) (by omega)))) | skip
      exact ih x11 I9 L10 w_I9 q_I9   (by omega)  (by omega)
set_option maxHeartbeats 4000000 in
set_option maxRecDepth 100000 in
theorem l_X12_keep_L113 {Z : jZ} {I0 : jI} {Q : Int32 → jI → jL → Prop} (w0 : WD Z I0) (v0 : Nat) (v1 : Int32) (kv0 : jk Z v0 12) (hQ : ∀ (r : Int32) (I' : jI) (L' : jL), WD Z I' → FR Ws_X12_keep Z I0 Z I' → ((r.toInt = 1 ∧ 0 ≤ v1.toInt ∧ v1.toInt ≤ 1) ∨ (r.toInt = 0 ∧ ¬ (0 ≤ v1.toInt ∧ v1.toInt ≤ 1))) → Q r I' L') : ∀ (n : Nat) (v2 : Int32) (I : jI) (L : jL), WD Z I → FR Ws_X12_keep Z I0 Z I →   (0 ≤ v2.toInt ∧ v2.toInt ≤ 6 ∧ (I v0 66).toInt = 266 * v1.toInt + 240 + 3 * v2.toInt ∧ 0 ≤ v1.toInt ∧ v1.toInt ≤ 1) → 6 - v2.toInt < (n : Int) → f_X12_keep_L113  Z Q n v0 v2 I L := by
  intro n
  induction n with
  | zero =>
    intro v2 I L w_I q_I   li  me
    exfalso
    omega
  | succ n ih =>
    intro v2 I L w_I q_I   li  me
    unfold f_X12_keep_L113
    have rv2 := i_rng v2
    have rv1 := i_rng v1
    refine ⟨fun c12 => ?_, fun c12 => ?_⟩
    · skip
      first | (have t13 : (6) ≤ v2.toInt := (i_le (show (6 : Int32).toInt = 6 from rfl) rfl).mp c12) | (have t13 : (6 : Int32).toInt ≤ v2.toInt := (i_le rfl rfl).mp c12) | skip
      have t14 : (0 : Int32).toInt = 0 := rfl
      exact ⟨(8 - (0 : Int32).toInt).toNat + 1, l_X12_keep_L157 w0 v0 v1 kv0   hQ   _ (0 : Int32) I L w_I q_I   (by omega)  (by omega)⟩
    · skip
      first | (have t15 : ¬ ((6) ≤ v2.toInt) := (not_congr (i_le (show (6 : Int32).toInt = 6 from rfl) rfl)).mp c12) | (have t15 : ¬ ((6 : Int32).toInt ≤ v2.toInt) := (not_congr (i_le rfl rfl)).mp c12) | skip
      intro b16 eb16
      obtain ⟨x17, ex17, kb16, lb16⟩ := sh_f w_I.1 kv0 (j := 14) (k := 14) (m := 6) rfl
      cases eb16.symm.trans ex17
      have o18 : vp_in v2 6 := vi_of rfl (by omega) (by omega)
      refine ⟨o18, ?_⟩
      have t19 : -1 ≤ (I b16 v2.toNatClampNeg).toInt ∧ (I b16 v2.toNatClampNeg).toInt ≤ 23 := w_I.arr 12 14 kv0 eb16 kb16 rfl rfl _
      refine s_X12_put w_I v0 (I b16 v2.toNatClampNeg) kv0  (by omega) (by exact ptF (k := v1.toInt) (m := (I v0 66).toInt - 266 * v1.toInt) (by omega) (by omega) (by omega) (by refine ⟨?_, ?_, ?_⟩ <;> intros <;> (constructor <;> omega))) (fun  I21 L22 w_I21 f_I21 p20 => ?_)
      have q_I21 : FR Ws_X12_keep Z I0 Z I21 := q_I.trans w0.1 w0.2.1 (f_I21.mono (by decide))
      intro b23 eb23
      obtain ⟨x24, ex24, kb23, lb23⟩ := sh_f w_I21.1 kv0 (j := 15) (k := 14) (m := 6) rfl
      cases eb23.symm.trans ex24
      have o25 : vp_in v2 6 := vi_of rfl (by omega) (by omega)
      refine ⟨o25, ?_⟩
      refine s_X12_put w_I21 v0 (I21 b23 v2.toNatClampNeg) kv0  (by omega) (by exact ptF (k := v1.toInt) (m := (I21 v0 66).toInt - 266 * v1.toInt) (by omega) (by omega) (by omega) (by refine ⟨?_, ?_, ?_⟩ <;> intros <;> (constructor <;> omega))) (fun  I27 L28 w_I27 f_I27 p26 => ?_)
      have q_I27 : FR Ws_X12_keep Z I0 Z I27 := q_I21.trans w0.1 w0.2.1 (f_I27.mono (by decide))
      intro b29 eb29
      obtain ⟨x30, ex30, kb29, lb29⟩ := sh_f w_I27.1 kv0 (j := 16) (k := 14) (m := 6) rfl
      cases eb29.symm.trans ex30
      have o31 : vp_in v2 6 := vi_of rfl (by omega) (by omega)
      refine ⟨o31, ?_⟩
      refine s_X12_put w_I27 v0 (I27 b29 v2.toNatClampNeg) kv0  (by omega) (by exact ptF (k := v1.toInt) (m := (I27 v0 66).toInt - 266 * v1.toInt) (by omega) (by omega) (by omega) (by refine ⟨?_, ?_, ?_⟩ <;> intros <;> (constructor <;> omega))) (fun  I33 L34 w_I33 f_I33 p32 => ?_)
      have q_I33 : FR Ws_X12_keep Z I0 Z I33 := q_I27.trans w0.1 w0.2.1 (f_I33.mono (by decide))
      intro x35 ex35
      have rx35 := i_rng x35
      first | (have tx35 : x35.toInt = v2.toInt + (1) := by (rw [ex35]; exact (i_add rfl (show (1 : Int32).toInt = 1 from rfl) (by omega) (by omega)))) | skip
      exact ih x35 I33 L34 w_I33 q_I33   (by omega)  (by omega)
set_option maxHeartbeats 4000000 in
set_option maxRecDepth 100000 in
theorem l_X12_keep_L88 {Z : jZ} {I0 : jI} {Q : Int32 → jI → jL → Prop} (w0 : WD Z I0) (v0 : Nat) (v1 : Int32) (kv0 : jk Z v0 12) (hQ : ∀ (r : Int32) (I' : jI) (L' : jL), WD Z I' → FR Ws_X12_keep Z I0 Z I' → ((r.toInt = 1 ∧ 0 ≤ v1.toInt ∧ v1.toInt ≤ 1) ∨ (r.toInt = 0 ∧ ¬ (0 ≤ v1.toInt ∧ v1.toInt ≤ 1))) → Q r I' L') : ∀ (n : Nat) (v2 : Int32) (I : jI) (L : jL), WD Z I → FR Ws_X12_keep Z I0 Z I →   (0 ≤ v2.toInt ∧ v2.toInt ≤ 192 ∧ (I v0 66).toInt = 266 * v1.toInt + 48 + 1 * v2.toInt ∧ 0 ≤ v1.toInt ∧ v1.toInt ≤ 1) → 192 - v2.toInt < (n : Int) → f_X12_keep_L88  Z Q n v0 v2 I L := by
  intro n
  induction n with
  | zero =>
    intro v2 I L w_I q_I   li  me
    exfalso
    omega
  | succ n ih =>
    intro v2 I L w_I q_I   li  me
    unfold f_X12_keep_L88
    have rv2 := i_rng v2
    have rv1 := i_rng v1
    refine ⟨fun c36 => ?_, fun c36 => ?_⟩
    · skip
      first | (have t37 : (192) ≤ v2.toInt := (i_le (show (192 : Int32).toInt = 192 from rfl) rfl).mp c36) | (have t37 : (192 : Int32).toInt ≤ v2.toInt := (i_le rfl rfl).mp c36) | skip
      have t38 : (0 : Int32).toInt = 0 := rfl
      exact ⟨(6 - (0 : Int32).toInt).toNat + 1, l_X12_keep_L113 w0 v0 v1 kv0   hQ   _ (0 : Int32) I L w_I q_I   (by omega)  (by omega)⟩
    · skip
      first | (have t39 : ¬ ((192) ≤ v2.toInt) := (not_congr (i_le (show (192 : Int32).toInt = 192 from rfl) rfl)).mp c36) | (have t39 : ¬ ((192 : Int32).toInt ≤ v2.toInt) := (not_congr (i_le rfl rfl)).mp c36) | skip
      intro b40 eb40
      obtain ⟨x41, ex41, kb40, lb40⟩ := sh_f w_I.1 kv0 (j := 5) (k := 14) (m := 192) rfl
      cases eb40.symm.trans ex41
      have o42 : vp_in v2 192 := vi_of rfl (by omega) (by omega)
      refine ⟨o42, ?_⟩
      refine s_X12_put w_I v0 (I b40 v2.toNatClampNeg) kv0  (by omega) (by exact ptF (k := v1.toInt) (m := (I v0 66).toInt - 266 * v1.toInt) (by omega) (by omega) (by omega) (by refine ⟨?_, ?_, ?_⟩ <;> intros <;> (constructor <;> omega))) (fun  I44 L45 w_I44 f_I44 p43 => ?_)
      have q_I44 : FR Ws_X12_keep Z I0 Z I44 := q_I.trans w0.1 w0.2.1 (f_I44.mono (by decide))
      intro x46 ex46
      have rx46 := i_rng x46
      first | (have tx46 : x46.toInt = v2.toInt + (1) := by (rw [ex46]; exact (i_add rfl (show (1 : Int32).toInt = 1 from rfl) (by omega) (by omega)))) | skip
      exact ih x46 I44 L45 w_I44 q_I44   (by omega)  (by omega)
set_option maxHeartbeats 4000000 in
set_option maxRecDepth 100000 in
theorem l_X12_keep_L54 {Z : jZ} {I0 : jI} {Q : Int32 → jI → jL → Prop} (w0 : WD Z I0) (v0 : Nat) (v1 : Int32) (kv0 : jk Z v0 12) (hQ : ∀ (r : Int32) (I' : jI) (L' : jL), WD Z I' → FR Ws_X12_keep Z I0 Z I' → ((r.toInt = 1 ∧ 0 ≤ v1.toInt ∧ v1.toInt ≤ 1) ∨ (r.toInt = 0 ∧ ¬ (0 ≤ v1.toInt ∧ v1.toInt ≤ 1))) → Q r I' L') : ∀ (n : Nat) (v2 : Int32) (I : jI) (L : jL), WD Z I → FR Ws_X12_keep Z I0 Z I →   (0 ≤ v2.toInt ∧ v2.toInt ≤ 24 ∧ (I v0 66).toInt = 266 * v1.toInt + 0 + 2 * v2.toInt ∧ 0 ≤ v1.toInt ∧ v1.toInt ≤ 1) → 24 - v2.toInt < (n : Int) → f_X12_keep_L54  Z Q n v0 v2 I L := by
  intro n
  induction n with
  | zero =>
    intro v2 I L w_I q_I   li  me
    exfalso
    omega
  | succ n ih =>
    intro v2 I L w_I q_I   li  me
    unfold f_X12_keep_L54
    have rv2 := i_rng v2
    have rv1 := i_rng v1
    refine ⟨fun c47 => ?_, fun c47 => ?_⟩
    · skip
      first | (have t48 : (24) ≤ v2.toInt := (i_le (show (24 : Int32).toInt = 24 from rfl) rfl).mp c47) | (have t48 : (24 : Int32).toInt ≤ v2.toInt := (i_le rfl rfl).mp c47) | skip
      have t49 : (0 : Int32).toInt = 0 := rfl
      exact ⟨(192 - (0 : Int32).toInt).toNat + 1, l_X12_keep_L88 w0 v0 v1 kv0   hQ   _ (0 : Int32) I L w_I q_I   (by omega)  (by omega)⟩
    · skip
      first | (have t50 : ¬ ((24) ≤ v2.toInt) := (not_congr (i_le (show (24 : Int32).toInt = 24 from rfl) rfl)).mp c47) | (have t50 : ¬ ((24 : Int32).toInt ≤ v2.toInt) := (not_congr (i_le rfl rfl)).mp c47) | skip
      intro b51 eb51
      obtain ⟨x52, ex52, kb51, lb51⟩ := sh_f w_I.1 kv0 (j := 2) (k := 14) (m := 24) rfl
      cases eb51.symm.trans ex52
      have o53 : vp_in v2 24 := vi_of rfl (by omega) (by omega)
      refine ⟨o53, ?_⟩
      have t54 : 0 ≤ (I b51 v2.toNatClampNeg).toInt ∧ (I b51 v2.toNatClampNeg).toInt ≤ 9 := w_I.arr 12 2 kv0 eb51 kb51 rfl rfl _
      refine s_X12_put w_I v0 (I b51 v2.toNatClampNeg) kv0  (by omega) (by exact ptF (k := v1.toInt) (m := (I v0 66).toInt - 266 * v1.toInt) (by omega) (by omega) (by omega) (by refine ⟨?_, ?_, ?_⟩ <;> intros <;> (constructor <;> omega))) (fun  I56 L57 w_I56 f_I56 p55 => ?_)
      have q_I56 : FR Ws_X12_keep Z I0 Z I56 := q_I.trans w0.1 w0.2.1 (f_I56.mono (by decide))
      intro b58 eb58
      obtain ⟨x59, ex59, kb58, lb58⟩ := sh_f w_I56.1 kv0 (j := 3) (k := 14) (m := 24) rfl
      cases eb58.symm.trans ex59
      have o60 : vp_in v2 24 := vi_of rfl (by omega) (by omega)
      refine ⟨o60, ?_⟩
      have t61 : 0 ≤ (I56 b58 v2.toNatClampNeg).toInt ∧ (I56 b58 v2.toNatClampNeg).toInt ≤ 20 := w_I56.arr 12 3 kv0 eb58 kb58 rfl rfl _
      refine s_X12_put w_I56 v0 (I56 b58 v2.toNatClampNeg) kv0  (by omega) (by exact ptF (k := v1.toInt) (m := (I56 v0 66).toInt - 266 * v1.toInt) (by omega) (by omega) (by omega) (by refine ⟨?_, ?_, ?_⟩ <;> intros <;> (constructor <;> omega))) (fun  I63 L64 w_I63 f_I63 p62 => ?_)
      have q_I63 : FR Ws_X12_keep Z I0 Z I63 := q_I56.trans w0.1 w0.2.1 (f_I63.mono (by decide))
      intro x65 ex65
      have rx65 := i_rng x65
      first | (have tx65 : x65.toInt = v2.toInt + (1) := by (rw [ex65]; exact (i_add rfl (show (1 : Int32).toInt = 1 from rfl) (by omega) (by omega)))) | skip
      exact ih x65 I63 L64 w_I63 q_I63   (by omega)  (by omega)
set_option maxHeartbeats 4000000 in
set_option maxRecDepth 100000 in
theorem s_X12_keep {Z : jZ} {I : jI} {L : jL} (w_I : WD Z I) (v0 : Nat) (v1 : Int32) (kv0 : jk Z v0 12) {Q : Int32 → jI → jL → Prop} (hQ : ∀ (r : Int32) (I' : jI) (L' : jL), WD Z I' → FR Ws_X12_keep Z I Z I' → ((r.toInt = 1 ∧ 0 ≤ v1.toInt ∧ v1.toInt ≤ 1) ∨ (r.toInt = 0 ∧ ¬ (0 ≤ v1.toInt ∧ v1.toInt ≤ 1))) → Q r I' L') : f_X12_keep v0 v1 Z I L Q := by
  unfold f_X12_keep
  have q_I : FR Ws_X12_keep Z I Z I := FR.rf
  have rv1 := i_rng v1
  intro I66 eI66
  have t67 : (0 : Int32).toInt = 0 := rfl
  have w_I66 : WD Z I66 := by rw [eI66]; exact WD_putF w_I 12 22 kv0 (by decide) (by decide) trivial
  have f_I66 : FR [(12, 22)] Z I Z I66 := by rw [eI66]; exact FR_putF kv0 (by decide) List.mem_cons_self
  have q_I66 : FR Ws_X12_keep Z I Z I66 := q_I.trans w_I.1 w_I.2.1 (f_I66.mono (by decide))
  have u68 : (I66 v0 66).toInt = (I v0 66).toInt := by rw [f_I66.2.2.1 v0 12 66 kv0 (by decide) (by decide)]
  first | (have u69 : (I66 v0 22).toInt = (0) := by (rw [eI66, show jpI I v0 22 (0 : Int32) v0 22 = (0 : Int32) from jpI_at] <;> exact (show (0 : Int32).toInt = 0 from rfl))) | skip
  have t70 : (0 : Int32).toInt = 0 := rfl
  have t71 : (1 : Int32).toInt = 1 := rfl
  refine s_X12_in w_I66 v1 (0 : Int32) (1 : Int32)    (fun r72 p73 => ?_)
  have rr72 := i_rng r72
  refine ⟨fun c74 => ?_, fun c74 => ?_⟩
  · skip
    first | (have t75 : ¬ (r72.toInt = (0)) := (not_congr (i_eq rfl (show (0 : Int32).toInt = 0 from rfl))).mp c74) | (have t75 : ¬ (r72.toInt = (0 : Int32).toInt) := (not_congr (i_eq rfl rfl)).mp c74) | skip
    intro b76 eb76
    obtain ⟨x77, ex77, kb76, lb76⟩ := sh_f w_I66.1 kv0 (j := 63) (k := 16) (m := 2) rfl
    cases eb76.symm.trans ex77
    have o78 : vp_in v1 2 := vi_of rfl (by omega) (by omega)
    refine ⟨o78, ?_⟩
    intro I79 eI79
    have t80 : (1 : Int32).toInt = 1 := rfl
    have w_I79 : WD Z I79 := by rw [eI79]; exact WD_putA w_I66 12 63 kv0 eb76 kb76 rfl rfl (by decide) trivial
    have f_I79 : FR [(12, 63)] Z I66 Z I79 := by rw [eI79]; exact FR_upA w_I66.2.1 kv0 eb76 kb76 rfl rfl List.mem_cons_self
    have q_I79 : FR Ws_X12_keep Z I Z I79 := q_I66.trans w_I.1 w_I.2.1 (f_I79.mono (by decide))
    have u81 : (I79 v0 66).toInt = (I66 v0 66).toInt := by rw [f_I79.2.2.1 v0 12 66 kv0 (by decide) (by decide)]
    have u82 : (I79 v0 22).toInt = (I66 v0 22).toInt := by rw [f_I79.2.2.1 v0 12 22 kv0 (by decide) (by decide)]
    intro b83 eb83
    obtain ⟨x84, ex84, kb83, lb83⟩ := sh_f w_I79.1 kv0 (j := 64) (k := 14) (m := 2) rfl
    cases eb83.symm.trans ex84
    have o85 : vp_in v1 2 := vi_of rfl (by omega) (by omega)
    refine ⟨o85, ?_⟩
    intro I86 eI86
    have w_I86 : WD Z I86 := by rw [eI86]; exact WD_putA w_I79 12 64 kv0 eb83 kb83 rfl rfl (by decide) trivial
    have f_I86 : FR [(12, 64)] Z I79 Z I86 := by rw [eI86]; exact FR_upA w_I79.2.1 kv0 eb83 kb83 rfl rfl List.mem_cons_self
    have q_I86 : FR Ws_X12_keep Z I Z I86 := q_I79.trans w_I.1 w_I.2.1 (f_I86.mono (by decide))
    have u87 : (I86 v0 66).toInt = (I79 v0 66).toInt := by rw [f_I86.2.2.1 v0 12 66 kv0 (by decide) (by decide)]
    have u88 : (I86 v0 22).toInt = (I79 v0 22).toInt := by rw [f_I86.2.2.1 v0 12 22 kv0 (by decide) (by decide)]
    have u89 : (I86 v0 7).toInt = (I79 v0 7).toInt := by rw [f_I86.2.2.1 v0 12 7 kv0 (by decide) (by decide)]
    intro b90 eb90
    obtain ⟨x91, ex91, kb90, lb90⟩ := sh_f w_I86.1 kv0 (j := 65) (k := 14) (m := 2) rfl
    cases eb90.symm.trans ex91
    have t93 : 0 ≤ (I86 v0 8).toInt ∧ (I86 v0 8).toInt ≤ 6 := w_I86.fld 12 8 kv0 (by decide)
    have o94 : vp_in v1 2 := vi_of rfl (by omega) (by omega)
    refine ⟨o94, ?_⟩
    intro I95 eI95
    have w_I95 : WD Z I95 := by rw [eI95]; exact WD_putA w_I86 12 65 kv0 eb90 kb90 rfl rfl (by decide) trivial
    have f_I95 : FR [(12, 65)] Z I86 Z I95 := by rw [eI95]; exact FR_upA w_I86.2.1 kv0 eb90 kb90 rfl rfl List.mem_cons_self
    have q_I95 : FR Ws_X12_keep Z I Z I95 := q_I86.trans w_I.1 w_I.2.1 (f_I95.mono (by decide))
    have u96 : (I95 v0 66).toInt = (I86 v0 66).toInt := by rw [f_I95.2.2.1 v0 12 66 kv0 (by decide) (by decide)]
    have u97 : (I95 v0 22).toInt = (I86 v0 22).toInt := by rw [f_I95.2.2.1 v0 12 22 kv0 (by decide) (by decide)]
    have u98 : (I95 v0 7).toInt = (I86 v0 7).toInt := by rw [f_I95.2.2.1 v0 12 7 kv0 (by decide) (by decide)]
    have u99 : (I95 v0 8).toInt = (I86 v0 8).toInt := by rw [f_I95.2.2.1 v0 12 8 kv0 (by decide) (by decide)]
    intro I100 eI100
    try (have t101 : ((266 : Int32) * v1).toInt = ((266) * v1.toInt) := (i_mul (show (266 : Int32).toInt = 266 from rfl) rfl (by omega) (by omega)))
    have w_I100 : WD Z I100 := by rw [eI100]; exact WD_putF w_I95 12 66 kv0 (by decide) (by decide) trivial
    have f_I100 : FR [(12, 66)] Z I95 Z I100 := by rw [eI100]; exact FR_putF kv0 (by decide) List.mem_cons_self
    have q_I100 : FR Ws_X12_keep Z I Z I100 := q_I95.trans w_I.1 w_I.2.1 (f_I100.mono (by decide))
    have u102 : (I100 v0 22).toInt = (I95 v0 22).toInt := by rw [f_I100.2.2.1 v0 12 22 kv0 (by decide) (by decide)]
    have u103 : (I100 v0 7).toInt = (I95 v0 7).toInt := by rw [f_I100.2.2.1 v0 12 7 kv0 (by decide) (by decide)]
    have u104 : (I100 v0 8).toInt = (I95 v0 8).toInt := by rw [f_I100.2.2.1 v0 12 8 kv0 (by decide) (by decide)]
    first | (have u105 : (I100 v0 66).toInt = ((266) * v1.toInt) := by (rw [eI100, show jpI I95 v0 66 ((266 : Int32) * v1) v0 66 = ((266 : Int32) * v1) from jpI_at] <;> exact (i_mul (show (266 : Int32).toInt = 266 from rfl) rfl (by omega) (by omega)))) | skip
    have t106 : (0 : Int32).toInt = 0 := rfl
    exact ⟨(24 - (0 : Int32).toInt).toNat + 1, l_X12_keep_L54 w_I v0 v1 kv0   hQ   _ (0 : Int32) I100 L w_I100 q_I100   (by omega)  (by omega)⟩
  · skip
    first | (have t107 : r72.toInt = (0) := (i_eq rfl (show (0 : Int32).toInt = 0 from rfl)).mp c74) | (have t107 : r72.toInt = (0 : Int32).toInt := (i_eq rfl rfl).mp c74) | skip
    have t108 : (0 : Int32).toInt = 0 := rfl
    exact hQ (0 : Int32) I66 L w_I66 q_I66 (by omega)
def Ws_X12_count : List (Nat × Nat) := [(12, 22)]
set_option maxHeartbeats 4000000 in
set_option maxRecDepth 100000 in
theorem l_X12_count_L103 {Z : jZ} {I0 : jI} {Q : Int32 → jI → jL → Prop} (w0 : WD Z I0) (v0 : Nat) (v1 : Int32) (kv0 : jk Z v0 12) (hQ : ∀ (r : Int32) (I' : jI) (L' : jL), WD Z I' → FR Ws_X12_count Z I0 Z I' → Q r I' L') : ∀ (n : Nat) (v2 : Int32) (v3 : Int32) (I : jI) (L : jL), WD Z I → FR Ws_X12_count Z I0 Z I →   (0 ≤ v3.toInt ∧ v3.toInt ≤ 8) → 8 - v3.toInt < (n : Int) → f_X12_count_L103  Z Q n v0 v2 v3 I L := by
  intro n
  induction n with
  | zero =>
    intro v2 v3 I L w_I q_I   li  me
    exfalso
    omega
  | succ n ih =>
    intro v2 v3 I L w_I q_I   li  me
    unfold f_X12_count_L103
    have rv2 := i_rng v2
    have rv3 := i_rng v3
    have rv1 := i_rng v1
    refine ⟨fun c1 => ?_, fun c1 => ?_⟩
    · skip
      first | (have t2 : (8) ≤ v3.toInt := (i_le (show (8 : Int32).toInt = 8 from rfl) rfl).mp c1) | (have t2 : (8 : Int32).toInt ≤ v3.toInt := (i_le rfl rfl).mp c1) | skip
      exact hQ v2 I L w_I q_I 
    · skip
      first | (have t3 : ¬ ((8) ≤ v3.toInt) := (not_congr (i_le (show (8 : Int32).toInt = 8 from rfl) rfl)).mp c1) | (have t3 : ¬ ((8 : Int32).toInt ≤ v3.toInt) := (not_congr (i_le rfl rfl)).mp c1) | skip
      intro b4 eb4
      obtain ⟨x5, ex5, kb4, lb4⟩ := sh_f w_I.1 kv0 (j := 17) (k := 14) (m := 8) rfl
      cases eb4.symm.trans ex5
      have o6 : vp_in v3 8 := vi_of rfl (by omega) (by omega)
      refine ⟨o6, ?_⟩
      intro x7 ex7
      have rx7 := i_rng x7
      first | (have tx7 : x7.toInt = (v2.toInt + (I b4 v3.toNatClampNeg).toInt) := by (rw [ex7]; exact (i_add rfl rfl (by omega) (by omega)))) | (have tx7 : x7.toInt = (v2 + (I b4 v3.toNatClampNeg)).toInt := by rw [ex7])
      intro x8 ex8
      have rx8 := i_rng x8
      first | (have tx8 : x8.toInt = v3.toInt + (1) := by (rw [ex8]; exact (i_add rfl (show (1 : Int32).toInt = 1 from rfl) (by omega) (by omega)))) | skip
      exact ih x7 x8 I L w_I q_I   (by omega)  (by omega)
set_option maxHeartbeats 4000000 in
set_option maxRecDepth 100000 in
theorem l_X12_count_L137 {Z : jZ} {I0 : jI} {Q : Int32 → jI → jL → Prop} (w0 : WD Z I0) (v0 : Nat) (v1 : Int32) (kv0 : jk Z v0 12) (v3 : Int32) (hQ : ∀ (r : Int32) (I' : jI) (L' : jL), WD Z I' → FR Ws_X12_count Z I0 Z I' → Q r I' L') {K128 : Nat → Int32 → Int32 → jI → jL → Prop} {N128 : Int} (hK128 : ∀ (v2 : Int32) (v3 : Int32) (I : jI) (L : jL), WD Z I → FR Ws_X12_count Z I0 Z I →   (0 ≤ v3.toInt ∧ v3.toInt ≤ 8) → 8 - v3.toInt < N128 → K128 v0 v2 v3 I L) : ∀ (n : Nat) (v2 : Int32) (v4 : Int32) (I : jI) (L : jL), WD Z I → FR Ws_X12_count Z I0 Z I →   (0 ≤ v3.toInt ∧ v3.toInt ≤ 7 ∧ 0 ≤ v4.toInt ∧ v4.toInt ≤ v3.toInt) → 8 - v3.toInt ≤ N128 → 8 - v4.toInt < (n : Int) → f_X12_count_L137 K128 Z Q n v0 v2 v3 v4 I L := by
  intro n
  induction n with
  | zero =>
    intro v2 v4 I L w_I q_I   li hm128 me
    exfalso
    omega
  | succ n ih =>
    intro v2 v4 I L w_I q_I   li hm128 me
    unfold f_X12_count_L137
    have rv2 := i_rng v2
    have rv4 := i_rng v4
    have rv3 := i_rng v3
    have rv1 := i_rng v1
    refine ⟨fun c9 => ?_, fun c9 => ?_⟩
    · skip
      first | (have t10 : v3.toInt ≤ v4.toInt := (i_le rfl rfl).mp c9) | (have t10 : v3.toInt ≤ v4.toInt := (i_le rfl rfl).mp c9) | skip
      intro x11 ex11
      have rx11 := i_rng x11
      first | (have tx11 : x11.toInt = v3.toInt + (1) := by (rw [ex11]; exact (i_add rfl (show (1 : Int32).toInt = 1 from rfl) (by omega) (by omega)))) | skip
      exact hK128 v2 x11 I L w_I q_I   (by omega)  (by omega)
    · skip
      first | (have t12 : ¬ (v3.toInt ≤ v4.toInt) := (not_congr (i_le rfl rfl)).mp c9) | (have t12 : ¬ (v3.toInt ≤ v4.toInt) := (not_congr (i_le rfl rfl)).mp c9) | skip
      intro b13 eb13
      obtain ⟨x14, ex14, kb13, lb13⟩ := sh_f w_I.1 kv0 (j := 6) (k := 16) (m := 64) rfl
      cases eb13.symm.trans ex14
      have o15 : vp_in (((8 : Int32) * v3) + v4) 64 := vi_of (i_add (i_mul (show (8 : Int32).toInt = 8 from rfl) rfl (by omega) (by omega)) rfl (by omega) (by omega)) (by omega) (by omega)
      refine ⟨o15, ?_⟩
      refine ⟨fun c16 => ?_, fun c16 => ?_⟩
      · skip
        first | (have t17 : (I b13 (((8 : Int32) * v3) + v4).toNatClampNeg).toInt = (0) := (i_eq rfl (show (0 : Int32).toInt = 0 from rfl)).mp c16) | (have t17 : (I b13 (((8 : Int32) * v3) + v4).toNatClampNeg).toInt = (0 : Int32).toInt := (i_eq rfl rfl).mp c16) | skip
        unfold f_X12_count_b164
        intro x18 ex18
        have rx18 := i_rng x18
        first | (have tx18 : x18.toInt = (v2.toInt + (0)) := by (rw [ex18]; exact (i_add rfl (show (0 : Int32).toInt = 0 from rfl) (by omega) (by omega)))) | (have tx18 : x18.toInt = (v2 + (0 : Int32)).toInt := by rw [ex18])
        intro x19 ex19
        have rx19 := i_rng x19
        first | (have tx19 : x19.toInt = v4.toInt + (1) := by (rw [ex19]; exact (i_add rfl (show (1 : Int32).toInt = 1 from rfl) (by omega) (by omega)))) | skip
        exact ih x18 x19 I L w_I q_I   (by omega) (by omega) (by omega)
      · skip
        first | (have t20 : ¬ ((I b13 (((8 : Int32) * v3) + v4).toNatClampNeg).toInt = (0)) := (not_congr (i_eq rfl (show (0 : Int32).toInt = 0 from rfl))).mp c16) | (have t20 : ¬ ((I b13 (((8 : Int32) * v3) + v4).toNatClampNeg).toInt = (0 : Int32).toInt) := (not_congr (i_eq rfl rfl)).mp c16) | skip
        unfold f_X12_count_b164
        intro x21 ex21
        have rx21 := i_rng x21
        first | (have tx21 : x21.toInt = (v2.toInt + (1)) := by (rw [ex21]; exact (i_add rfl (show (1 : Int32).toInt = 1 from rfl) (by omega) (by omega)))) | (have tx21 : x21.toInt = (v2 + (1 : Int32)).toInt := by rw [ex21])
        intro x22 ex22
        have rx22 := i_rng x22
        first | (have tx22 : x22.toInt = v4.toInt + (1) := by (rw [ex22]; exact (i_add rfl (show (1 : Int32).toInt = 1 from rfl) (by omega) (by omega)))) | skip
        exact ih x21 x22 I L w_I q_I   (by omega) (by omega) (by omega)
set_option maxHeartbeats 4000000 in
set_option maxRecDepth 100000 in
theorem l_X12_count_L128 {Z : jZ} {I0 : jI} {Q : Int32 → jI → jL → Prop} (w0 : WD Z I0) (v0 : Nat) (v1 : Int32) (kv0 : jk Z v0 12) (hQ : ∀ (r : Int32) (I' : jI) (L' : jL), WD Z I' → FR Ws_X12_count Z I0 Z I' → Q r I' L') : ∀ (n : Nat) (v2 : Int32) (v3 : Int32) (I : jI) (L : jL), WD Z I → FR Ws_X12_count Z I0 Z I →   (0 ≤ v3.toInt ∧ v3.toInt ≤ 8) → 8 - v3.toInt < (n : Int) → f_X12_count_L128  Z Q n v0 v2 v3 I L := by
  intro n
  induction n with
  | zero =>
    intro v2 v3 I L w_I q_I   li  me
    exfalso
    omega
  | succ n ih =>
    intro v2 v3 I L w_I q_I   li  me
    unfold f_X12_count_L128
    have rv2 := i_rng v2
    have rv3 := i_rng v3
    have rv1 := i_rng v1
    refine ⟨fun c23 => ?_, fun c23 => ?_⟩
    · skip
      first | (have t24 : (8) ≤ v3.toInt := (i_le (show (8 : Int32).toInt = 8 from rfl) rfl).mp c23) | (have t24 : (8 : Int32).toInt ≤ v3.toInt := (i_le rfl rfl).mp c23) | skip
      exact hQ v2 I L w_I q_I 
    · skip
      first | (have t25 : ¬ ((8) ≤ v3.toInt) := (not_congr (i_le (show (8 : Int32).toInt = 8 from rfl) rfl)).mp c23) | (have t25 : ¬ ((8 : Int32).toInt ≤ v3.toInt) := (not_congr (i_le rfl rfl)).mp c23) | skip
      have t26 : (0 : Int32).toInt = 0 := rfl
      exact ⟨(8 - (0 : Int32).toInt).toNat + 1, l_X12_count_L137 w0 v0 v1 kv0 v3  hQ ih  _ v2 (0 : Int32) I L w_I q_I   (by omega) (by omega) (by omega)⟩
set_option maxHeartbeats 4000000 in
set_option maxRecDepth 100000 in
theorem s_X12_count {Z : jZ} {I : jI} {L : jL} (w_I : WD Z I) (v0 : Nat) (v1 : Int32) (kv0 : jk Z v0 12) {Q : Int32 → jI → jL → Prop} (hQ : ∀ (r : Int32) (I' : jI) (L' : jL), WD Z I' → FR Ws_X12_count Z I Z I' → Q r I' L') : f_X12_count v0 v1 Z I L Q := by
  unfold f_X12_count
  have q_I : FR Ws_X12_count Z I Z I := FR.rf
  have rv1 := i_rng v1
  intro I27 eI27
  have t28 : (0 : Int32).toInt = 0 := rfl
  have w_I27 : WD Z I27 := by rw [eI27]; exact WD_putF w_I 12 22 kv0 (by decide) (by decide) trivial
  have f_I27 : FR [(12, 22)] Z I Z I27 := by rw [eI27]; exact FR_putF kv0 (by decide) List.mem_cons_self
  have q_I27 : FR Ws_X12_count Z I Z I27 := q_I.trans w_I.1 w_I.2.1 (f_I27.mono (by decide))
  first | (have u29 : (I27 v0 22).toInt = (0) := by (rw [eI27, show jpI I v0 22 (0 : Int32) v0 22 = (0 : Int32) from jpI_at] <;> exact (show (0 : Int32).toInt = 0 from rfl))) | skip
  refine ⟨fun c30 => ?_, fun c30 => ?_⟩
  · skip
    first | (have t31 : v1.toInt = (0) := (i_eq rfl (show (0 : Int32).toInt = 0 from rfl)).mp c30) | (have t31 : v1.toInt = (0 : Int32).toInt := (i_eq rfl rfl).mp c30) | skip
    have t33 : 0 ≤ (I27 v0 0).toInt ∧ (I27 v0 0).toInt ≤ 24 := w_I27.fld 12 0 kv0 (by decide)
    exact hQ (I27 v0 0) I27 L w_I27 q_I27 
  · skip
    first | (have t34 : ¬ (v1.toInt = (0)) := (not_congr (i_eq rfl (show (0 : Int32).toInt = 0 from rfl))).mp c30) | (have t34 : ¬ (v1.toInt = (0 : Int32).toInt) := (not_congr (i_eq rfl rfl)).mp c30) | skip
    refine ⟨fun c35 => ?_, fun c35 => ?_⟩
    · skip
      first | (have t36 : v1.toInt = (1) := (i_eq rfl (show (1 : Int32).toInt = 1 from rfl)).mp c35) | (have t36 : v1.toInt = (1 : Int32).toInt := (i_eq rfl rfl).mp c35) | skip
      have t38 : 0 ≤ (I27 v0 8).toInt ∧ (I27 v0 8).toInt ≤ 6 := w_I27.fld 12 8 kv0 (by decide)
      exact hQ (I27 v0 8) I27 L w_I27 q_I27 
    · skip
      first | (have t39 : ¬ (v1.toInt = (1)) := (not_congr (i_eq rfl (show (1 : Int32).toInt = 1 from rfl))).mp c35) | (have t39 : ¬ (v1.toInt = (1 : Int32).toInt) := (not_congr (i_eq rfl rfl)).mp c35) | skip
      refine ⟨fun c40 => ?_, fun c40 => ?_⟩
      · skip
        first | (have t41 : v1.toInt = (2) := (i_eq rfl (show (2 : Int32).toInt = 2 from rfl)).mp c40) | (have t41 : v1.toInt = (2 : Int32).toInt := (i_eq rfl rfl).mp c40) | skip
        intro b42 eb42
        obtain ⟨x43, ex43, kb42, lb42⟩ := sh_f w_I27.1 kv0 (j := 30) (k := 14) (m := 2) rfl
        cases eb42.symm.trans ex43
        have t44 : 0 ≤ (I27 b42 (0 : Int32).toNatClampNeg).toInt ∧ (I27 b42 (0 : Int32).toNatClampNeg).toInt ≤ 40 := w_I27.arr 12 30 kv0 eb42 kb42 rfl rfl _
        refine ⟨fun c45 => ?_, fun c45 => ?_⟩
        · skip
          first | (have t46 : (I27 b42 (0 : Int32).toNatClampNeg).toInt ≤ (0) := (i_le rfl (show (0 : Int32).toInt = 0 from rfl)).mp c45) | (have t46 : (I27 b42 (0 : Int32).toNatClampNeg).toInt ≤ (0 : Int32).toInt := (i_le rfl rfl).mp c45) | skip
          unfold f_X12_count_b80
          intro b47 eb47
          obtain rfl : b42 = b47 := Option.some.inj (eb42.symm.trans eb47)
          have t48 : 0 ≤ (I27 b42 (1 : Int32).toNatClampNeg).toInt ∧ (I27 b42 (1 : Int32).toNatClampNeg).toInt ≤ 40 := w_I27.arr 12 30 kv0 eb42 kb42 rfl rfl _
          refine ⟨fun c49 => ?_, fun c49 => ?_⟩
          · skip
            first | (have t50 : (I27 b42 (1 : Int32).toNatClampNeg).toInt ≤ (0) := (i_le rfl (show (0 : Int32).toInt = 0 from rfl)).mp c49) | (have t50 : (I27 b42 (1 : Int32).toNatClampNeg).toInt ≤ (0 : Int32).toInt := (i_le rfl rfl).mp c49) | skip
            unfold f_X12_count_b94
            try (have t51 : ((0 : Int32) + (0 : Int32)).toInt = ((0) + (0)) := (i_add (show (0 : Int32).toInt = 0 from rfl) (show (0 : Int32).toInt = 0 from rfl) (by omega) (by omega)))
            exact hQ ((0 : Int32) + (0 : Int32)) I27 L w_I27 q_I27 
          · skip
            first | (have t52 : ¬ ((I27 b42 (1 : Int32).toNatClampNeg).toInt ≤ (0)) := (not_congr (i_le rfl (show (0 : Int32).toInt = 0 from rfl))).mp c49) | (have t52 : ¬ ((I27 b42 (1 : Int32).toNatClampNeg).toInt ≤ (0 : Int32).toInt) := (not_congr (i_le rfl rfl)).mp c49) | skip
            unfold f_X12_count_b94
            try (have t53 : ((0 : Int32) + (2 : Int32)).toInt = ((0) + (2)) := (i_add (show (0 : Int32).toInt = 0 from rfl) (show (2 : Int32).toInt = 2 from rfl) (by omega) (by omega)))
            exact hQ ((0 : Int32) + (2 : Int32)) I27 L w_I27 q_I27 
        · skip
          first | (have t54 : ¬ ((I27 b42 (0 : Int32).toNatClampNeg).toInt ≤ (0)) := (not_congr (i_le rfl (show (0 : Int32).toInt = 0 from rfl))).mp c45) | (have t54 : ¬ ((I27 b42 (0 : Int32).toNatClampNeg).toInt ≤ (0 : Int32).toInt) := (not_congr (i_le rfl rfl)).mp c45) | skip
          unfold f_X12_count_b80
          intro b55 eb55
          obtain rfl : b42 = b55 := Option.some.inj (eb42.symm.trans eb55)
          have t56 : 0 ≤ (I27 b42 (1 : Int32).toNatClampNeg).toInt ∧ (I27 b42 (1 : Int32).toNatClampNeg).toInt ≤ 40 := w_I27.arr 12 30 kv0 eb42 kb42 rfl rfl _
          refine ⟨fun c57 => ?_, fun c57 => ?_⟩
          · skip
            first | (have t58 : (I27 b42 (1 : Int32).toNatClampNeg).toInt ≤ (0) := (i_le rfl (show (0 : Int32).toInt = 0 from rfl)).mp c57) | (have t58 : (I27 b42 (1 : Int32).toNatClampNeg).toInt ≤ (0 : Int32).toInt := (i_le rfl rfl).mp c57) | skip
            unfold f_X12_count_b94
            try (have t59 : ((1 : Int32) + (0 : Int32)).toInt = ((1) + (0)) := (i_add (show (1 : Int32).toInt = 1 from rfl) (show (0 : Int32).toInt = 0 from rfl) (by omega) (by omega)))
            exact hQ ((1 : Int32) + (0 : Int32)) I27 L w_I27 q_I27 
          · skip
            first | (have t60 : ¬ ((I27 b42 (1 : Int32).toNatClampNeg).toInt ≤ (0)) := (not_congr (i_le rfl (show (0 : Int32).toInt = 0 from rfl))).mp c57) | (have t60 : ¬ ((I27 b42 (1 : Int32).toNatClampNeg).toInt ≤ (0 : Int32).toInt) := (not_congr (i_le rfl rfl)).mp c57) | skip
            unfold f_X12_count_b94
            try (have t61 : ((1 : Int32) + (2 : Int32)).toInt = ((1) + (2)) := (i_add (show (1 : Int32).toInt = 1 from rfl) (show (2 : Int32).toInt = 2 from rfl) (by omega) (by omega)))
            exact hQ ((1 : Int32) + (2 : Int32)) I27 L w_I27 q_I27 
      · skip
        first | (have t62 : ¬ (v1.toInt = (2)) := (not_congr (i_eq rfl (show (2 : Int32).toInt = 2 from rfl))).mp c40) | (have t62 : ¬ (v1.toInt = (2 : Int32).toInt) := (not_congr (i_eq rfl rfl)).mp c40) | skip
        refine ⟨fun c63 => ?_, fun c63 => ?_⟩
        · skip
          first | (have t64 : v1.toInt = (3) := (i_eq rfl (show (3 : Int32).toInt = 3 from rfl)).mp c63) | (have t64 : v1.toInt = (3 : Int32).toInt := (i_eq rfl rfl).mp c63) | skip
          have t66 : 0 ≤ (I27 v0 52).toInt ∧ (I27 v0 52).toInt ≤ 8 := w_I27.fld 12 52 kv0 (by decide)
          exact hQ (I27 v0 52) I27 L w_I27 q_I27 
        · skip
          first | (have t67 : ¬ (v1.toInt = (3)) := (not_congr (i_eq rfl (show (3 : Int32).toInt = 3 from rfl))).mp c63) | (have t67 : ¬ (v1.toInt = (3 : Int32).toInt) := (not_congr (i_eq rfl rfl)).mp c63) | skip
          refine ⟨fun c68 => ?_, fun c68 => ?_⟩
          · skip
            first | (have t69 : v1.toInt = (4) := (i_eq rfl (show (4 : Int32).toInt = 4 from rfl)).mp c68) | (have t69 : v1.toInt = (4 : Int32).toInt := (i_eq rfl rfl).mp c68) | skip
            have t70 : (0 : Int32).toInt = 0 := rfl
            have t71 : (0 : Int32).toInt = 0 := rfl
            exact ⟨(8 - (0 : Int32).toInt).toNat + 1, l_X12_count_L103 w_I v0 v1 kv0   hQ   _ (0 : Int32) (0 : Int32) I27 L w_I27 q_I27   (by omega)  (by omega)⟩
          · skip
            first | (have t72 : ¬ (v1.toInt = (4)) := (not_congr (i_eq rfl (show (4 : Int32).toInt = 4 from rfl))).mp c68) | (have t72 : ¬ (v1.toInt = (4 : Int32).toInt) := (not_congr (i_eq rfl rfl)).mp c68) | skip
            refine ⟨fun c73 => ?_, fun c73 => ?_⟩
            · skip
              first | (have t74 : v1.toInt = (5) := (i_eq rfl (show (5 : Int32).toInt = 5 from rfl)).mp c73) | (have t74 : v1.toInt = (5 : Int32).toInt := (i_eq rfl rfl).mp c73) | skip
              have t75 : (0 : Int32).toInt = 0 := rfl
              have t76 : (0 : Int32).toInt = 0 := rfl
              exact ⟨(8 - (0 : Int32).toInt).toNat + 1, l_X12_count_L128 w_I v0 v1 kv0   hQ   _ (0 : Int32) (0 : Int32) I27 L w_I27 q_I27   (by omega)  (by omega)⟩
            · skip
              first | (have t77 : ¬ (v1.toInt = (5)) := (not_congr (i_eq rfl (show (5 : Int32).toInt = 5 from rfl))).mp c73) | (have t77 : ¬ (v1.toInt = (5 : Int32).toInt) := (not_congr (i_eq rfl rfl)).mp c73) | skip
              refine ⟨fun c78 => ?_, fun c78 => ?_⟩
              · skip
                first | (have t79 : v1.toInt = (6) := (i_eq rfl (show (6 : Int32).toInt = 6 from rfl)).mp c78) | (have t79 : v1.toInt = (6 : Int32).toInt := (i_eq rfl rfl).mp c78) | skip
                have t81 : 0 ≤ (I27 v0 21).toInt ∧ (I27 v0 21).toInt ≤ 40 := w_I27.fld 12 21 kv0 (by decide)
                exact hQ (I27 v0 21) I27 L w_I27 q_I27 
              · skip
                first | (have t82 : ¬ (v1.toInt = (6)) := (not_congr (i_eq rfl (show (6 : Int32).toInt = 6 from rfl))).mp c78) | (have t82 : ¬ (v1.toInt = (6 : Int32).toInt) := (not_congr (i_eq rfl rfl)).mp c78) | skip
                refine ⟨fun c83 => ?_, fun c83 => ?_⟩
                · skip
                  first | (have t84 : v1.toInt = (7) := (i_eq rfl (show (7 : Int32).toInt = 7 from rfl)).mp c83) | (have t84 : v1.toInt = (7 : Int32).toInt := (i_eq rfl rfl).mp c83) | skip
                  have t86 : 0 ≤ (I27 v0 19).toInt ∧ (I27 v0 19).toInt ≤ 80 := w_I27.fld 12 19 kv0 (by decide)
                  exact hQ (I27 v0 19) I27 L w_I27 q_I27 
                · skip
                  first | (have t87 : ¬ (v1.toInt = (7)) := (not_congr (i_eq rfl (show (7 : Int32).toInt = 7 from rfl))).mp c83) | (have t87 : ¬ (v1.toInt = (7 : Int32).toInt) := (not_congr (i_eq rfl rfl)).mp c83) | skip
                  have t88 : (-1 : Int32).toInt = -1 := rfl
                  exact hQ (-1 : Int32) I27 L w_I27 q_I27 
end
section
def Ws_X12_again : List (Nat × Nat) := [(12, 2), (12, 3), (12, 5), (12, 14), (12, 15), (12, 16), (12, 17), (12, 22), (12, 52), (12, 66)]
set_option maxHeartbeats 4000000 in
set_option maxRecDepth 100000 in
theorem l_X12_again_L175 {Z : jZ} {I0 : jI} {Q : Int32 → jI → jL → Prop} (w0 : WD Z I0) (v0 : Nat) (v1 : Int32) (kv0 : jk Z v0 12) (hQ : ∀ (r : Int32) (I' : jI) (L' : jL), WD Z I' → FR Ws_X12_again Z I0 Z I' → Q r I' L') : ∀ (n : Nat) (v2 : Int32) (I : jI) (L : jL), WD Z I → FR Ws_X12_again Z I0 Z I →   (0 ≤ v2.toInt ∧ v2.toInt ≤ 8 ∧ (I v0 66).toInt = 266 * v1.toInt + 258 + 1 * v2.toInt ∧ 0 ≤ v1.toInt ∧ v1.toInt ≤ 1) → 8 - v2.toInt < (n : Int) → f_X12_again_L175  Z Q n v0 v2 I L := by
  intro n
  induction n with
  | zero =>
    intro v2 I L w_I q_I   li  me
    exfalso
    omega
  | succ n ih =>
    intro v2 I L w_I q_I   li  me
    unfold f_X12_again_L175
    have rv2 := i_rng v2
    have rv1 := i_rng v1
    refine ⟨fun c1 => ?_, fun c1 => ?_⟩
    · skip
      first | (have t2 : (8) ≤ v2.toInt := (i_le (show (8 : Int32).toInt = 8 from rfl) rfl).mp c1) | (have t2 : (8 : Int32).toInt ≤ v2.toInt := (i_le rfl rfl).mp c1) | skip
      intro I3 eI3
      have t4 : (0 : Int32).toInt = 0 := rfl
      have w_I3 : WD Z I3 := by rw [eI3]; exact WD_putF w_I 12 52 kv0 (by decide) (by decide) (by constructor <;> omega)
      have f_I3 : FR [(12, 52)] Z I Z I3 := by rw [eI3]; exact FR_putF kv0 (by decide) List.mem_cons_self
      have q_I3 : FR Ws_X12_again Z I0 Z I3 := q_I.trans w0.1 w0.2.1 (f_I3.mono (by decide))
      have u5 : (I3 v0 66).toInt = (I v0 66).toInt := by rw [f_I3.2.2.1 v0 12 66 kv0 (by decide) (by decide)]
      first | (have u6 : (I3 v0 52).toInt = (0) := by (rw [eI3, show jpI I v0 52 (0 : Int32) v0 52 = (0 : Int32) from jpI_at] <;> exact (show (0 : Int32).toInt = 0 from rfl))) | skip
      have t7 : (1 : Int32).toInt = 1 := rfl
      exact hQ (1 : Int32) I3 L w_I3 q_I3 
    · skip
      first | (have t8 : ¬ ((8) ≤ v2.toInt) := (not_congr (i_le (show (8 : Int32).toInt = 8 from rfl) rfl)).mp c1) | (have t8 : ¬ ((8 : Int32).toInt ≤ v2.toInt) := (not_congr (i_le rfl rfl)).mp c1) | skip
      intro b9 eb9
      obtain ⟨x10, ex10, kb9, lb9⟩ := sh_f w_I.1 kv0 (j := 17) (k := 14) (m := 8) rfl
      cases eb9.symm.trans ex10
      refine s_X12_take w_I v0 kv0  (by omega) (fun r11 I13 L14 w_I13 f_I13 p12 => ?_)
      have q_I13 : FR Ws_X12_again Z I0 Z I13 := q_I.trans w0.1 w0.2.1 (f_I13.mono (by decide))
      have h15 := tkF (k := v1.toInt) (m := (I v0 66).toInt - 266 * v1.toInt) p12.2 (by omega) (by omega) (by omega)
      first | (have h151 := h15.1 (by omega) (by omega)) | (have h151 := h15.2.1 (by omega) (by omega)) | (have h151 := h15.2.2 (by omega) (by omega) (by omega)) | skip
      clear h15
      obtain ⟨p12_0, p12_1⟩ := p12
      have rr11 := i_rng r11
      have o16 : vp_in v2 8 := vi_of rfl (by omega) (by omega)
      refine ⟨o16, ?_⟩
      intro I17 eI17
      have w_I17 : WD Z I17 := by rw [eI17]; exact WD_putA w_I13 12 17 kv0 eb9 kb9 rfl rfl (by decide) trivial
      have f_I17 : FR [(12, 17)] Z I13 Z I17 := by rw [eI17]; exact FR_upA w_I13.2.1 kv0 eb9 kb9 rfl rfl List.mem_cons_self
      have q_I17 : FR Ws_X12_again Z I0 Z I17 := q_I13.trans w0.1 w0.2.1 (f_I17.mono (by decide))
      have u18 : (I17 v0 66).toInt = (I13 v0 66).toInt := by rw [f_I17.2.2.1 v0 12 66 kv0 (by decide) (by decide)]
      intro x19 ex19
      have rx19 := i_rng x19
      first | (have tx19 : x19.toInt = v2.toInt + (1) := by (rw [ex19]; exact (i_add rfl (show (1 : Int32).toInt = 1 from rfl) (by omega) (by omega)))) | skip
      exact ih x19 I17 L14 w_I17 q_I17   (by omega)  (by omega)
set_option maxHeartbeats 4000000 in
set_option maxRecDepth 100000 in
theorem l_X12_again_L108 {Z : jZ} {I0 : jI} {Q : Int32 → jI → jL → Prop} (w0 : WD Z I0) (v0 : Nat) (v1 : Int32) (kv0 : jk Z v0 12) (hQ : ∀ (r : Int32) (I' : jI) (L' : jL), WD Z I' → FR Ws_X12_again Z I0 Z I' → Q r I' L') : ∀ (n : Nat) (v2 : Int32) (I : jI) (L : jL), WD Z I → FR Ws_X12_again Z I0 Z I →   (0 ≤ v2.toInt ∧ v2.toInt ≤ 6 ∧ (I v0 66).toInt = 266 * v1.toInt + 240 + 3 * v2.toInt ∧ 0 ≤ v1.toInt ∧ v1.toInt ≤ 1) → 6 - v2.toInt < (n : Int) → f_X12_again_L108  Z Q n v0 v1 v2 I L := by
  intro n
  induction n with
  | zero =>
    intro v2 I L w_I q_I   li  me
    exfalso
    omega
  | succ n ih =>
    intro v2 I L w_I q_I   li  me
    unfold f_X12_again_L108
    have rv2 := i_rng v2
    have rv1 := i_rng v1
    refine ⟨fun c20 => ?_, fun c20 => ?_⟩
    · skip
      first | (have t21 : (6) ≤ v2.toInt := (i_le (show (6 : Int32).toInt = 6 from rfl) rfl).mp c20) | (have t21 : (6 : Int32).toInt ≤ v2.toInt := (i_le rfl rfl).mp c20) | skip
      have t22 : (0 : Int32).toInt = 0 := rfl
      exact ⟨(8 - (0 : Int32).toInt).toNat + 1, l_X12_again_L175 w0 v0 v1 kv0   hQ   _ (0 : Int32) I L w_I q_I   (by omega)  (by omega)⟩
    · skip
      first | (have t23 : ¬ ((6) ≤ v2.toInt) := (not_congr (i_le (show (6 : Int32).toInt = 6 from rfl) rfl)).mp c20) | (have t23 : ¬ ((6 : Int32).toInt ≤ v2.toInt) := (not_congr (i_le rfl rfl)).mp c20) | skip
      refine s_X12_take w_I v0 kv0  (by omega) (fun r24 I26 L27 w_I26 f_I26 p25 => ?_)
      have q_I26 : FR Ws_X12_again Z I0 Z I26 := q_I.trans w0.1 w0.2.1 (f_I26.mono (by decide))
      have h28 := tkF (k := v1.toInt) (m := (I v0 66).toInt - 266 * v1.toInt) p25.2 (by omega) (by omega) (by omega)
      first | (have h281 := h28.1 (by omega) (by omega)) | (have h281 := h28.2.1 (by omega) (by omega)) | (have h281 := h28.2.2 (by omega) (by omega) (by omega)) | skip
      clear h28
      obtain ⟨p25_0, p25_1⟩ := p25
      have rr24 := i_rng r24
      refine s_X12_take w_I26 v0 kv0  (by omega) (fun r29 I31 L32 w_I31 f_I31 p30 => ?_)
      have q_I31 : FR Ws_X12_again Z I0 Z I31 := q_I26.trans w0.1 w0.2.1 (f_I31.mono (by decide))
      have h33 := tkF (k := v1.toInt) (m := (I26 v0 66).toInt - 266 * v1.toInt) p30.2 (by omega) (by omega) (by omega)
      first | (have h331 := h33.1 (by omega) (by omega)) | (have h331 := h33.2.1 (by omega) (by omega)) | (have h331 := h33.2.2 (by omega) (by omega) (by omega)) | skip
      clear h33
      obtain ⟨p30_0, p30_1⟩ := p30
      have rr29 := i_rng r29
      refine s_X12_take w_I31 v0 kv0  (by omega) (fun r34 I36 L37 w_I36 f_I36 p35 => ?_)
      have q_I36 : FR Ws_X12_again Z I0 Z I36 := q_I31.trans w0.1 w0.2.1 (f_I36.mono (by decide))
      have h38 := tkF (k := v1.toInt) (m := (I31 v0 66).toInt - 266 * v1.toInt) p35.2 (by omega) (by omega) (by omega)
      first | (have h381 := h38.1 (by omega) (by omega)) | (have h381 := h38.2.1 (by omega) (by omega)) | (have h381 := h38.2.2 (by omega) (by omega) (by omega)) | skip
      clear h38
      obtain ⟨p35_0, p35_1⟩ := p35
      have rr34 := i_rng r34
      intro b39 eb39
      obtain ⟨x40, ex40, kb39, lb39⟩ := sh_f w_I36.1 kv0 (j := 65) (k := 14) (m := 2) rfl
      cases eb39.symm.trans ex40
      have o41 : vp_in v1 2 := vi_of rfl (by omega) (by omega)
      refine ⟨o41, ?_⟩
      refine ⟨fun c42 => ?_, fun c42 => ?_⟩
      · skip
        first | (have t43 : v2.toInt < (I36 b39 v1.toNatClampNeg).toInt := (i_lt rfl rfl).mp c42) | (have t43 : v2.toInt < (I36 b39 v1.toNatClampNeg).toInt := (i_lt rfl rfl).mp c42) | skip
        intro b44 eb44
        obtain ⟨x45, ex45, kb44, lb44⟩ := sh_f w_I36.1 kv0 (j := 14) (k := 14) (m := 6) rfl
        cases eb44.symm.trans ex45
        have o46 : vp_in v2 6 := vi_of rfl (by omega) (by omega)
        refine ⟨o46, ?_⟩
        intro I47 eI47
        have w_I47 : WD Z I47 := by rw [eI47]; exact WD_putA w_I36 12 14 kv0 eb44 kb44 rfl rfl (by decide) (by constructor <;> omega)
        have f_I47 : FR [(12, 14)] Z I36 Z I47 := by rw [eI47]; exact FR_upA w_I36.2.1 kv0 eb44 kb44 rfl rfl List.mem_cons_self
        have q_I47 : FR Ws_X12_again Z I0 Z I47 := q_I36.trans w0.1 w0.2.1 (f_I47.mono (by decide))
        have u48 : (I47 v0 66).toInt = (I36 v0 66).toInt := by rw [f_I47.2.2.1 v0 12 66 kv0 (by decide) (by decide)]
        intro b49 eb49
        obtain ⟨x50, ex50, kb49, lb49⟩ := sh_f w_I47.1 kv0 (j := 15) (k := 14) (m := 6) rfl
        cases eb49.symm.trans ex50
        have o51 : vp_in v2 6 := vi_of rfl (by omega) (by omega)
        refine ⟨o51, ?_⟩
        intro I52 eI52
        have w_I52 : WD Z I52 := by rw [eI52]; exact WD_putA w_I47 12 15 kv0 eb49 kb49 rfl rfl (by decide) trivial
        have f_I52 : FR [(12, 15)] Z I47 Z I52 := by rw [eI52]; exact FR_upA w_I47.2.1 kv0 eb49 kb49 rfl rfl List.mem_cons_self
        have q_I52 : FR Ws_X12_again Z I0 Z I52 := q_I47.trans w0.1 w0.2.1 (f_I52.mono (by decide))
        have u53 : (I52 v0 66).toInt = (I47 v0 66).toInt := by rw [f_I52.2.2.1 v0 12 66 kv0 (by decide) (by decide)]
        intro b54 eb54
        obtain ⟨x55, ex55, kb54, lb54⟩ := sh_f w_I52.1 kv0 (j := 16) (k := 14) (m := 6) rfl
        cases eb54.symm.trans ex55
        have o56 : vp_in v2 6 := vi_of rfl (by omega) (by omega)
        refine ⟨o56, ?_⟩
        intro I57 eI57
        have w_I57 : WD Z I57 := by rw [eI57]; exact WD_putA w_I52 12 16 kv0 eb54 kb54 rfl rfl (by decide) trivial
        have f_I57 : FR [(12, 16)] Z I52 Z I57 := by rw [eI57]; exact FR_upA w_I52.2.1 kv0 eb54 kb54 rfl rfl List.mem_cons_self
        have q_I57 : FR Ws_X12_again Z I0 Z I57 := q_I52.trans w0.1 w0.2.1 (f_I57.mono (by decide))
        have u58 : (I57 v0 66).toInt = (I52 v0 66).toInt := by rw [f_I57.2.2.1 v0 12 66 kv0 (by decide) (by decide)]
        unfold f_X12_again_b167
        intro x59 ex59
        have rx59 := i_rng x59
        first | (have tx59 : x59.toInt = v2.toInt + (1) := by (rw [ex59]; exact (i_add rfl (show (1 : Int32).toInt = 1 from rfl) (by omega) (by omega)))) | skip
        exact ih x59 I57 L37 w_I57 q_I57   (by omega)  (by omega)
      · skip
        first | (have t60 : ¬ (v2.toInt < (I36 b39 v1.toNatClampNeg).toInt) := (not_congr (i_lt rfl rfl)).mp c42) | (have t60 : ¬ (v2.toInt < (I36 b39 v1.toNatClampNeg).toInt) := (not_congr (i_lt rfl rfl)).mp c42) | skip
        unfold f_X12_again_b167
        intro x61 ex61
        have rx61 := i_rng x61
        first | (have tx61 : x61.toInt = v2.toInt + (1) := by (rw [ex61]; exact (i_add rfl (show (1 : Int32).toInt = 1 from rfl) (by omega) (by omega)))) | skip
        exact ih x61 I36 L37 w_I36 q_I36   (by omega)  (by omega)
set_option maxHeartbeats 4000000 in
set_option maxRecDepth 100000 in
theorem l_X12_again_L83 {Z : jZ} {I0 : jI} {Q : Int32 → jI → jL → Prop} (w0 : WD Z I0) (v0 : Nat) (v1 : Int32) (kv0 : jk Z v0 12) (hQ : ∀ (r : Int32) (I' : jI) (L' : jL), WD Z I' → FR Ws_X12_again Z I0 Z I' → Q r I' L') : ∀ (n : Nat) (v2 : Int32) (I : jI) (L : jL), WD Z I → FR Ws_X12_again Z I0 Z I →   (0 ≤ v2.toInt ∧ v2.toInt ≤ 192 ∧ (I v0 66).toInt = 266 * v1.toInt + 48 + 1 * v2.toInt ∧ 0 ≤ v1.toInt ∧ v1.toInt ≤ 1) → 192 - v2.toInt < (n : Int) → f_X12_again_L83  Z Q n v0 v1 v2 I L := by
  intro n
  induction n with
  | zero =>
    intro v2 I L w_I q_I   li  me
    exfalso
    omega
  | succ n ih =>
    intro v2 I L w_I q_I   li  me
    unfold f_X12_again_L83
    have rv2 := i_rng v2
    have rv1 := i_rng v1
    refine ⟨fun c62 => ?_, fun c62 => ?_⟩
    · skip
      first | (have t63 : (192) ≤ v2.toInt := (i_le (show (192 : Int32).toInt = 192 from rfl) rfl).mp c62) | (have t63 : (192 : Int32).toInt ≤ v2.toInt := (i_le rfl rfl).mp c62) | skip
      have t64 : (0 : Int32).toInt = 0 := rfl
      exact ⟨(6 - (0 : Int32).toInt).toNat + 1, l_X12_again_L108 w0 v0 v1 kv0   hQ   _ (0 : Int32) I L w_I q_I   (by omega)  (by omega)⟩
    · skip
      first | (have t65 : ¬ ((192) ≤ v2.toInt) := (not_congr (i_le (show (192 : Int32).toInt = 192 from rfl) rfl)).mp c62) | (have t65 : ¬ ((192 : Int32).toInt ≤ v2.toInt) := (not_congr (i_le rfl rfl)).mp c62) | skip
      intro b66 eb66
      obtain ⟨x67, ex67, kb66, lb66⟩ := sh_f w_I.1 kv0 (j := 5) (k := 14) (m := 192) rfl
      cases eb66.symm.trans ex67
      refine s_X12_take w_I v0 kv0  (by omega) (fun r68 I70 L71 w_I70 f_I70 p69 => ?_)
      have q_I70 : FR Ws_X12_again Z I0 Z I70 := q_I.trans w0.1 w0.2.1 (f_I70.mono (by decide))
      have h72 := tkF (k := v1.toInt) (m := (I v0 66).toInt - 266 * v1.toInt) p69.2 (by omega) (by omega) (by omega)
      first | (have h721 := h72.1 (by omega) (by omega)) | (have h721 := h72.2.1 (by omega) (by omega)) | (have h721 := h72.2.2 (by omega) (by omega) (by omega)) | skip
      clear h72
      obtain ⟨p69_0, p69_1⟩ := p69
      have rr68 := i_rng r68
      have o73 : vp_in v2 192 := vi_of rfl (by omega) (by omega)
      refine ⟨o73, ?_⟩
      intro I74 eI74
      have w_I74 : WD Z I74 := by rw [eI74]; exact WD_putA w_I70 12 5 kv0 eb66 kb66 rfl rfl (by decide) trivial
      have f_I74 : FR [(12, 5)] Z I70 Z I74 := by rw [eI74]; exact FR_upA w_I70.2.1 kv0 eb66 kb66 rfl rfl List.mem_cons_self
      have q_I74 : FR Ws_X12_again Z I0 Z I74 := q_I70.trans w0.1 w0.2.1 (f_I74.mono (by decide))
      have u75 : (I74 v0 66).toInt = (I70 v0 66).toInt := by rw [f_I74.2.2.1 v0 12 66 kv0 (by decide) (by decide)]
      intro x76 ex76
      have rx76 := i_rng x76
      first | (have tx76 : x76.toInt = v2.toInt + (1) := by (rw [ex76]; exact (i_add rfl (show (1 : Int32).toInt = 1 from rfl) (by omega) (by omega)))) | skip
      exact ih x76 I74 L71 w_I74 q_I74   (by omega)  (by omega)
set_option maxHeartbeats 4000000 in
set_option maxRecDepth 100000 in
theorem l_X12_again_L49 {Z : jZ} {I0 : jI} {Q : Int32 → jI → jL → Prop} (w0 : WD Z I0) (v0 : Nat) (v1 : Int32) (kv0 : jk Z v0 12) (hQ : ∀ (r : Int32) (I' : jI) (L' : jL), WD Z I' → FR Ws_X12_again Z I0 Z I' → Q r I' L') : ∀ (n : Nat) (v2 : Int32) (I : jI) (L : jL), WD Z I → FR Ws_X12_again Z I0 Z I →   (0 ≤ v2.toInt ∧ v2.toInt ≤ 24 ∧ (I v0 66).toInt = 266 * v1.toInt + 0 + 2 * v2.toInt ∧ 0 ≤ v1.toInt ∧ v1.toInt ≤ 1) → 24 - v2.toInt < (n : Int) → f_X12_again_L49  Z Q n v0 v1 v2 I L := by
  intro n
  induction n with
  | zero =>
    intro v2 I L w_I q_I   li  me
    exfalso
    omega
  | succ n ih =>
    intro v2 I L w_I q_I   li  me
    unfold f_X12_again_L49
    have rv2 := i_rng v2
    have rv1 := i_rng v1
    refine ⟨fun c77 => ?_, fun c77 => ?_⟩
    · skip
      first | (have t78 : (24) ≤ v2.toInt := (i_le (show (24 : Int32).toInt = 24 from rfl) rfl).mp c77) | (have t78 : (24 : Int32).toInt ≤ v2.toInt := (i_le rfl rfl).mp c77) | skip
      have t79 : (0 : Int32).toInt = 0 := rfl
      exact ⟨(192 - (0 : Int32).toInt).toNat + 1, l_X12_again_L83 w0 v0 v1 kv0   hQ   _ (0 : Int32) I L w_I q_I   (by omega)  (by omega)⟩
    · skip
      first | (have t80 : ¬ ((24) ≤ v2.toInt) := (not_congr (i_le (show (24 : Int32).toInt = 24 from rfl) rfl)).mp c77) | (have t80 : ¬ ((24 : Int32).toInt ≤ v2.toInt) := (not_congr (i_le rfl rfl)).mp c77) | skip
      intro b81 eb81
      obtain ⟨x82, ex82, kb81, lb81⟩ := sh_f w_I.1 kv0 (j := 2) (k := 14) (m := 24) rfl
      cases eb81.symm.trans ex82
      refine s_X12_take w_I v0 kv0  (by omega) (fun r83 I85 L86 w_I85 f_I85 p84 => ?_)
      have q_I85 : FR Ws_X12_again Z I0 Z I85 := q_I.trans w0.1 w0.2.1 (f_I85.mono (by decide))
      have h87 := tkF (k := v1.toInt) (m := (I v0 66).toInt - 266 * v1.toInt) p84.2 (by omega) (by omega) (by omega)
      first | (have h871 := h87.1 (by omega) (by omega)) | (have h871 := h87.2.1 (by omega) (by omega)) | (have h871 := h87.2.2 (by omega) (by omega) (by omega)) | skip
      clear h87
      obtain ⟨p84_0, p84_1⟩ := p84
      have rr83 := i_rng r83
      have o88 : vp_in v2 24 := vi_of rfl (by omega) (by omega)
      refine ⟨o88, ?_⟩
      intro I89 eI89
      have w_I89 : WD Z I89 := by rw [eI89]; exact WD_putA w_I85 12 2 kv0 eb81 kb81 rfl rfl (by decide) (by constructor <;> omega)
      have f_I89 : FR [(12, 2)] Z I85 Z I89 := by rw [eI89]; exact FR_upA w_I85.2.1 kv0 eb81 kb81 rfl rfl List.mem_cons_self
      have q_I89 : FR Ws_X12_again Z I0 Z I89 := q_I85.trans w0.1 w0.2.1 (f_I89.mono (by decide))
      have u90 : (I89 v0 66).toInt = (I85 v0 66).toInt := by rw [f_I89.2.2.1 v0 12 66 kv0 (by decide) (by decide)]
      intro b91 eb91
      obtain ⟨x92, ex92, kb91, lb91⟩ := sh_f w_I89.1 kv0 (j := 3) (k := 14) (m := 24) rfl
      cases eb91.symm.trans ex92
      refine s_X12_take w_I89 v0 kv0  (by omega) (fun r93 I95 L96 w_I95 f_I95 p94 => ?_)
      have q_I95 : FR Ws_X12_again Z I0 Z I95 := q_I89.trans w0.1 w0.2.1 (f_I95.mono (by decide))
      have h97 := tkF (k := v1.toInt) (m := (I89 v0 66).toInt - 266 * v1.toInt) p94.2 (by omega) (by omega) (by omega)
      first | (have h971 := h97.1 (by omega) (by omega)) | (have h971 := h97.2.1 (by omega) (by omega)) | (have h971 := h97.2.2 (by omega) (by omega) (by omega)) | skip
      clear h97
      obtain ⟨p94_0, p94_1⟩ := p94
      have rr93 := i_rng r93
      have o98 : vp_in v2 24 := vi_of rfl (by omega) (by omega)
      refine ⟨o98, ?_⟩
      intro I99 eI99
      have w_I99 : WD Z I99 := by rw [eI99]; exact WD_putA w_I95 12 3 kv0 eb91 kb91 rfl rfl (by decide) (by constructor <;> omega)
      have f_I99 : FR [(12, 3)] Z I95 Z I99 := by rw [eI99]; exact FR_upA w_I95.2.1 kv0 eb91 kb91 rfl rfl List.mem_cons_self
      have q_I99 : FR Ws_X12_again Z I0 Z I99 := q_I95.trans w0.1 w0.2.1 (f_I99.mono (by decide))
      have u100 : (I99 v0 66).toInt = (I95 v0 66).toInt := by rw [f_I99.2.2.1 v0 12 66 kv0 (by decide) (by decide)]
      intro x101 ex101
      have rx101 := i_rng x101
      first | (have tx101 : x101.toInt = v2.toInt + (1) := by (rw [ex101]; exact (i_add rfl (show (1 : Int32).toInt = 1 from rfl) (by omega) (by omega)))) | skip
      exact ih x101 I99 L96 w_I99 q_I99   (by omega)  (by omega)
set_option maxHeartbeats 4000000 in
set_option maxRecDepth 100000 in
theorem s_X12_again {Z : jZ} {I : jI} {L : jL} (w_I : WD Z I) (v0 : Nat) (v1 : Int32) (kv0 : jk Z v0 12) {Q : Int32 → jI → jL → Prop} (hQ : ∀ (r : Int32) (I' : jI) (L' : jL), WD Z I' → FR Ws_X12_again Z I Z I' → Q r I' L') : f_X12_again v0 v1 Z I L Q := by
  unfold f_X12_again
  have q_I : FR Ws_X12_again Z I Z I := FR.rf
  have rv1 := i_rng v1
  intro I102 eI102
  have t103 : (0 : Int32).toInt = 0 := rfl
  have w_I102 : WD Z I102 := by rw [eI102]; exact WD_putF w_I 12 22 kv0 (by decide) (by decide) trivial
  have f_I102 : FR [(12, 22)] Z I Z I102 := by rw [eI102]; exact FR_putF kv0 (by decide) List.mem_cons_self
  have q_I102 : FR Ws_X12_again Z I Z I102 := q_I.trans w_I.1 w_I.2.1 (f_I102.mono (by decide))
  have u104 : (I102 v0 66).toInt = (I v0 66).toInt := by rw [f_I102.2.2.1 v0 12 66 kv0 (by decide) (by decide)]
  first | (have u105 : (I102 v0 22).toInt = (0) := by (rw [eI102, show jpI I v0 22 (0 : Int32) v0 22 = (0 : Int32) from jpI_at] <;> exact (show (0 : Int32).toInt = 0 from rfl))) | skip
  have t106 : (0 : Int32).toInt = 0 := rfl
  have t107 : (1 : Int32).toInt = 1 := rfl
  refine s_X12_in w_I102 v1 (0 : Int32) (1 : Int32)    (fun r108 p109 => ?_)
  have rr108 := i_rng r108
  refine ⟨fun c110 => ?_, fun c110 => ?_⟩
  · skip
    first | (have t111 : r108.toInt = (0) := (i_eq rfl (show (0 : Int32).toInt = 0 from rfl)).mp c110) | (have t111 : r108.toInt = (0 : Int32).toInt := (i_eq rfl rfl).mp c110) | skip
    have t112 : (0 : Int32).toInt = 0 := rfl
    exact hQ (0 : Int32) I102 L w_I102 q_I102 
  · skip
    first | (have t113 : ¬ (r108.toInt = (0)) := (not_congr (i_eq rfl (show (0 : Int32).toInt = 0 from rfl))).mp c110) | (have t113 : ¬ (r108.toInt = (0 : Int32).toInt) := (not_congr (i_eq rfl rfl)).mp c110) | skip
    intro b114 eb114
    obtain ⟨x115, ex115, kb114, lb114⟩ := sh_f w_I102.1 kv0 (j := 63) (k := 16) (m := 2) rfl
    cases eb114.symm.trans ex115
    have o116 : vp_in v1 2 := vi_of rfl (by omega) (by omega)
    refine ⟨o116, ?_⟩
    refine ⟨fun c117 => ?_, fun c117 => ?_⟩
    · skip
      first | (have t118 : (I102 b114 v1.toNatClampNeg).toInt = (0) := (i_eq rfl (show (0 : Int32).toInt = 0 from rfl)).mp c117) | (have t118 : (I102 b114 v1.toNatClampNeg).toInt = (0 : Int32).toInt := (i_eq rfl rfl).mp c117) | skip
      have t119 : (0 : Int32).toInt = 0 := rfl
      exact hQ (0 : Int32) I102 L w_I102 q_I102 
    · skip
      first | (have t120 : ¬ ((I102 b114 v1.toNatClampNeg).toInt = (0)) := (not_congr (i_eq rfl (show (0 : Int32).toInt = 0 from rfl))).mp c117) | (have t120 : ¬ ((I102 b114 v1.toNatClampNeg).toInt = (0 : Int32).toInt) := (not_congr (i_eq rfl rfl)).mp c117) | skip
      intro b121 eb121
      obtain ⟨x122, ex122, kb121, lb121⟩ := sh_f w_I102.1 kv0 (j := 64) (k := 14) (m := 2) rfl
      cases eb121.symm.trans ex122
      have o123 : vp_in v1 2 := vi_of rfl (by omega) (by omega)
      refine ⟨o123, ?_⟩
      refine ⟨fun c124 => ?_, fun c124 => ?_⟩
      · skip
        first | (have t125 : (I102 b121 v1.toNatClampNeg).toInt = (I102 v0 7).toInt := (i_eq rfl rfl).mp c124) | (have t125 : (I102 b121 v1.toNatClampNeg).toInt = (I102 v0 7).toInt := (i_eq rfl rfl).mp c124) | skip
        intro I126 eI126
        try (have t127 : ((266 : Int32) * v1).toInt = ((266) * v1.toInt) := (i_mul (show (266 : Int32).toInt = 266 from rfl) rfl (by omega) (by omega)))
        have w_I126 : WD Z I126 := by rw [eI126]; exact WD_putF w_I102 12 66 kv0 (by decide) (by decide) trivial
        have f_I126 : FR [(12, 66)] Z I102 Z I126 := by rw [eI126]; exact FR_putF kv0 (by decide) List.mem_cons_self
        have q_I126 : FR Ws_X12_again Z I Z I126 := q_I102.trans w_I.1 w_I.2.1 (f_I126.mono (by decide))
        have u128 : (I126 v0 22).toInt = (I102 v0 22).toInt := by rw [f_I126.2.2.1 v0 12 22 kv0 (by decide) (by decide)]
        have u129 : (I126 v0 7).toInt = (I102 v0 7).toInt := by rw [f_I126.2.2.1 v0 12 7 kv0 (by decide) (by decide)]
        first | (have u130 : (I126 v0 66).toInt = ((266) * v1.toInt) := by (rw [eI126, show jpI I102 v0 66 ((266 : Int32) * v1) v0 66 = ((266 : Int32) * v1) from jpI_at] <;> exact (i_mul (show (266 : Int32).toInt = 266 from rfl) rfl (by omega) (by omega)))) | skip
        have t131 : (0 : Int32).toInt = 0 := rfl
        exact ⟨(24 - (0 : Int32).toInt).toNat + 1, l_X12_again_L49 w_I v0 v1 kv0   hQ   _ (0 : Int32) I126 L w_I126 q_I126   (by omega)  (by omega)⟩
      · skip
        first | (have t132 : ¬ ((I102 b121 v1.toNatClampNeg).toInt = (I102 v0 7).toInt) := (not_congr (i_eq rfl rfl)).mp c124) | (have t132 : ¬ ((I102 b121 v1.toNatClampNeg).toInt = (I102 v0 7).toInt) := (not_congr (i_eq rfl rfl)).mp c124) | skip
        have t133 : (0 : Int32).toInt = 0 := rfl
        exact hQ (0 : Int32) I102 L w_I102 q_I102 
end
section
/-! ===== the model's pool: but for what it reads, the same ===== -/
def SZ (Z Z' : jZ) : Prop := Z'.1 = Z.1 ∧ Z'.2.1 = Z.2.1 ∧ Z'.2.2.1 = Z.2.2.1 ∧ ∀ a j, ¬ (Z.2.1 a = 12 ∧ j = 23) → jr Z' a j = jr Z a j
theorem SZ.rf {Z : jZ} : SZ Z Z := ⟨rfl, rfl, rfl, fun _ _ _ => rfl⟩
theorem SZ.trans {Z Z' Z'' : jZ} (h : SZ Z Z') (h' : SZ Z' Z'') : SZ Z Z'' := ⟨h'.1.trans h.1, h'.2.1.trans h.2.1, h'.2.2.1.trans h.2.2.1, fun a j hn => (h'.2.2.2 a j (by rw [h.2.1]; exact hn)).trans (h.2.2.2 a j hn)⟩
theorem SZ.kk {Z Z' : jZ} (h : SZ Z Z') {a c : Nat} : jk Z' a c ↔ jk Z a c := by
  constructor
  · rintro ⟨h1, h2⟩; exact ⟨by rw [← h.1]; exact h1, by rw [← h.2.1]; exact h2⟩
  · rintro ⟨h1, h2⟩; exact ⟨by rw [h.1]; exact h1, by rw [h.2.1]; exact h2⟩
theorem SZ.cap {Z Z' : jZ} (h : SZ Z Z') (x : Nat) : capN Z' x = capN Z x := by
  have : (∃ r, jk Z' r 0 ∧ jr Z' r 0 = some x) ↔ (∃ r, jk Z r 0 ∧ jr Z r 0 = some x) := by
    constructor
    · rintro ⟨r, h1, h2⟩
      have h1' := h.kk.mp h1
      exact ⟨r, h1', by rw [← h.2.2.2 r 0 (fun q => by omega)]; exact h2⟩
    · rintro ⟨r, h1, h2⟩
      exact ⟨r, h.kk.mpr h1, by rw [h.2.2.2 r 0 (fun q => by omega)]; exact h2⟩
  unfold capN
  by_cases hh : ∃ r, jk Z r 0 ∧ jr Z r 0 = some x
  · rw [if_pos hh, if_pos (this.mpr hh)]
  · rw [if_neg hh, if_neg (fun q => hh (this.mp q))]
theorem SZ.pot {Z Z' : jZ} (h : SZ Z Z') : potc Z' = potc Z := by
  unfold potc
  rw [h.1]
  congr 1
  refine List.map_congr_left (fun a _ => ?_)
  rw [h.2.1]
  by_cases h7 : Z.2.1 a = 7
  · rw [if_pos h7, if_pos h7, h.cap]
    have : klen Z' a = klen Z a := by
      unfold klen
      rw [h.2.2.2 a 0 (fun q => by omega)]
      cases jr Z a 0 with
      | none => rfl
      | some b => exact congrFun h.2.2.1 b
    rw [this]
  · rw [if_neg h7, if_neg h7]
theorem SZ.cs {Z Z' : jZ} (h : SZ Z Z') : jcz Z' = jcz Z ∧ jsz Z' = jsz Z := by
  unfold jcz jsz
  rw [h.1, h.2.1, h.2.2.1]
  exact ⟨rfl, rfl⟩
theorem SZ.bud {B : Nat × Nat} {T : Nat} {Z Z' : jZ} (h : SZ Z Z') (b : BUD B Z T) : BUD B Z' T := by
  unfold BUD
  rw [h.pot, h.cs.1, h.cs.2]
  exact b
/-- what the model reads is put -/
theorem WD_read {Z : jZ} {I : jI} {a b : Nat} (w : WD Z I) (ha : jk Z a 12) (hb : jk Z b 13) : WD (jpR Z a 23 (some b)) I ∧ SZ Z (jpR Z a 23 (some b)) ∧ FR [] Z I (jpR Z a 23 (some b)) I ∧ jr (jpR Z a 23 (some b)) a 23 = some b := by
  have ro : ∀ x j, ¬ (Z.2.1 x = 12 ∧ j = 23) → jr (jpR Z a 23 (some b)) x j = jr Z x j := fun x j hn => by
    show va_up Z.2.2.2 a (va_up (Z.2.2.2 a) 23 (some b)) x j = Z.2.2.2 x j
    by_cases e : x = a
    · subst e
      rw [va_up_self, va_up_ne _ _ (fun q => hn ⟨ha.2, q⟩)]
    · rw [va_up_ne _ _ e]
  have ra : jr (jpR Z a 23 (some b)) a 23 = some b := by
    show va_up Z.2.2.2 a (va_up (Z.2.2.2 a) 23 (some b)) a 23 = some b
    rw [va_up_self, va_up_self]
  have hs : SZ Z (jpR Z a 23 (some b)) := ⟨rfl, rfl, rfl, ro⟩
  have nj : ∀ x c j, jk Z x c → jsr c j = false → ¬ (Z.2.1 x = 12 ∧ j = 23) := fun x c j hk hj q => by
    rw [← hk.2, q.1, q.2] at hj; cases hj
  refine ⟨⟨SH_putr w.1 ha rfl, ⟨w.2.1.1, fun x c j y hk e => ?_, fun x c j x' c' j' y hk hk' e e' h1 h2 => ?_⟩, ⟨w.2.2.1.1, fun x c j y hk e k h1 i => ?_⟩, ?_⟩, hs, ⟨jext_putr, fun x c j hk _ h12 => ro x j (fun q => h12 ⟨hk.2.symm.trans q.1, q.2⟩), fun _ _ _ _ _ _ => rfl, fun _ _ _ _ _ _ _ _ _ => rfl⟩, ra⟩
  · by_cases q : Z.2.1 x = 12 ∧ j = 23
    · by_cases hx : x = a
      · subst hx
        obtain ⟨-, rfl⟩ := q
        rw [ra] at e; cases e
        exact hb.1
      · have : jr (jpR Z a 23 (some b)) x j = jr Z x j := congrFun (va_up_ne _ _ hx) j
        rw [this] at e
        exact w.2.1.2.1 x c j y hk e
    · rw [ro x j q] at e
      exact w.2.1.2.1 x c j y hk e
  · rw [ro x j (nj x c j hk h1)] at e
    rw [ro x' j' (nj x' c' j' hk' h2)] at e'
    exact w.2.1.2.2 x c j x' c' j' y hk hk' e e' h1 h2
  · rw [ro x j (nj x c j hk h1)] at e
    exact w.2.2.1.2 x c j y hk e k h1 i
  · intro x c0 c1 c2 c4 hk g0 g1 g2 g4
    have hk7 : Z.2.1 x = 7 := hk.2
    rw [ro x 0 (fun q => by omega)] at g0
    rw [ro x 1 (fun q => by omega)] at g1
    rw [ro x 2 (fun q => by omega)] at g2
    rw [ro x 4 (fun q => by omega)] at g4
    have old := w.2.2.2 x c0 c1 c2 c4 hk g0 g1 g2 g4
    unfold RI1 at old ⊢
    rw [hs.cap]
    exact old
def Ws_X12_begin : List (Nat × Nat) := [(12, 24), (12, 25), (12, 26), (12, 27)]
theorem s_X12_begin {B : Nat × Nat} {T : Nat} {Z : jZ} {I : jI} {L : jL} (w_I : WD Z I) (bd_Z : BUD B Z T) (v0 v1 : Nat) (v2 v3 : Int32) (kv0 : jk Z v0 12) (kv1 : jk Z v1 13) (o1_ c1_ j1_ : Nat) (_ : jk Z o1_ c1_) (_ : jr Z o1_ j1_ = some v1) {Q : jZ → jI → jL → Prop}
    (hQ : ∀ (Z' : jZ) (I' : jI) (L' : jL), WD Z' I' → BUD B Z' T → FR Ws_X12_begin Z I Z' I' → CP Z Z' → (jr Z' v0 23 = some v1 ∧ (I' v0 24).toInt = v2.toInt ∧ (I' v0 25).toInt = v3.toInt ∧ (I' v0 26).toInt = 0 ∧ (I' v0 27).toInt = -1) → Q Z' I' L') : f_X12_begin B v0 v1 v2 v3 Z I L Q := by
  obtain ⟨w1, s1, f1, r1⟩ := WD_read w_I kv0 kv1
  unfold f_X12_begin
  intro Z1 eZ I2 e2 I3 e3 I4 e4 I5 e5
  rw [← eZ] at w1 s1 f1 r1
  have k1 : jk Z1 v0 12 := s1.kk.mpr kv0
  have w2 : WD Z1 I2 := by rw [e2]; exact WD_putF w1 12 24 k1 (by decide) (by decide) trivial
  have w3 : WD Z1 I3 := by rw [e3]; exact WD_putF w2 12 25 k1 (by decide) (by decide) trivial
  have w4 : WD Z1 I4 := by rw [e4]; exact WD_putF w3 12 26 k1 (by decide) (by decide) trivial
  have w5 : WD Z1 I5 := by rw [e5]; exact WD_putF w4 12 27 k1 (by decide) (by decide) trivial
  have f2 : FR Ws_X12_begin Z1 I Z1 I2 := by rw [e2]; exact FR_putF k1 (by decide) (by decide)
  have f3 : FR Ws_X12_begin Z1 I2 Z1 I3 := by rw [e3]; exact FR_putF k1 (by decide) (by decide)
  have f4 : FR Ws_X12_begin Z1 I3 Z1 I4 := by rw [e4]; exact FR_putF k1 (by decide) (by decide)
  have f5 : FR Ws_X12_begin Z1 I4 Z1 I5 := by rw [e5]; exact FR_putF k1 (by decide) (by decide)
  refine hQ Z1 I5 L w5 (s1.bud bd_Z) (FR.trans w_I.1 w_I.2.1 (f1.mono (fun p h => absurd h List.not_mem_nil)) (FR.trans w1.1 w1.2.1 f2 (FR.trans w1.1 w1.2.1 f3 (FR.trans w1.1 w1.2.1 f4 f5)))) (fun x _ => s1.cap x) ⟨r1, ?_, ?_, ?_, ?_⟩
  · rw [e5, jpI_off (by decide), e4, jpI_off (by decide), e3, jpI_off (by decide), e2, jpI_at]
  · rw [e5, jpI_off (by decide), e4, jpI_off (by decide), e3, jpI_at]
  · rw [e5, jpI_off (by decide), e4, jpI_at]; rfl
  · rw [e5, jpI_at]; rfl
theorem i_mulb {x y : Int32} {A B M N : Int} (hx : x.toInt = A) (hy : y.toInt = B) (a0 : 0 ≤ A) (a1 : A ≤ M) (b0 : 0 ≤ B) (b1 : B ≤ N) (h : M * N ≤ 2147483647) : 0 ≤ (x * y).toInt ∧ (x * y).toInt ≤ M * N := by
  have h1 : 0 ≤ A * B := Int.mul_nonneg a0 b0
  have h2 : A * B ≤ M * N := Int.mul_le_mul a1 b1 b0 (by omega)
  rw [i_mul hx hy (by omega) (by omega)]
  exact ⟨h1, h2⟩
end
section
set_option maxHeartbeats 4000000 in
set_option maxRecDepth 100000 in
theorem s_X12_here {Z : jZ} {I : jI} {L : jL} (w_I : WD Z I) (v0 : Nat) (kv0 : jk Z v0 12) (uR : Nat) (huR : jr Z v0 23 = some uR) (kuR : jk Z uR 13) (p0 : 0 ≤ (I v0 26).toInt ∧ (I v0 26).toInt ≤ (I v0 24).toInt ∧ (I v0 26).toInt ≤ (I v0 25).toInt ∧ (I v0 24).toInt ≤ (jlen Z uR : Int) ∧ jlen Z uR ≤ 80) {Q : Int32 → jI → jL → Prop} (hQ : ∀ (r : Int32), (r.toInt = -1 ∨ ((I v0 26).toInt < (I v0 24).toInt ∧ (I v0 26).toInt < (I v0 25).toInt)) → Q r I L) : f_X12_here v0 Z I L Q := by
  unfold f_X12_here
  refine ⟨fun c1 => ?_, fun c1 => ?_⟩
  · skip
    first | (have t2 : (I v0 24).toInt ≤ (I v0 26).toInt := (i_le rfl rfl).mp c1) | (have t2 : (I v0 24).toInt ≤ (I v0 26).toInt := (i_le rfl rfl).mp c1) | skip
    have t3 : (-1 : Int32).toInt = -1 := rfl
    exact hQ (-1 : Int32) (by omega)
  · skip
    first | (have t4 : ¬ ((I v0 24).toInt ≤ (I v0 26).toInt) := (not_congr (i_le rfl rfl)).mp c1) | (have t4 : ¬ ((I v0 24).toInt ≤ (I v0 26).toInt) := (not_congr (i_le rfl rfl)).mp c1) | skip
    refine ⟨fun c5 => ?_, fun c5 => ?_⟩
    · skip
      first | (have t6 : (I v0 25).toInt ≤ (I v0 26).toInt := (i_le rfl rfl).mp c5) | (have t6 : (I v0 25).toInt ≤ (I v0 26).toInt := (i_le rfl rfl).mp c5) | skip
      have t7 : (-1 : Int32).toInt = -1 := rfl
      exact hQ (-1 : Int32) (by omega)
    · skip
      first | (have t8 : ¬ ((I v0 25).toInt ≤ (I v0 26).toInt) := (not_congr (i_le rfl rfl)).mp c5) | (have t8 : ¬ ((I v0 25).toInt ≤ (I v0 26).toInt) := (not_congr (i_le rfl rfl)).mp c5) | skip
      refine ⟨uR, huR, kuR, ?_⟩
      have o10 : vp_in (I v0 26) (jlen Z uR) := vi_of rfl (by omega) (by omega)
      refine ⟨o10, ?_⟩
      exact hQ (I uR (I v0 26).toNatClampNeg) (by omega)
set_option maxHeartbeats 4000000 in
set_option maxRecDepth 100000 in
theorem s_X12_fine {Z : jZ} {I : jI} {L : jL} (w_I : WD Z I) (v0 : Nat) (kv0 : jk Z v0 12) {Q : Int32 → jI → jL → Prop} (hQ : ∀ (r : Int32), ((r.toInt = 1 ∧ ((I v0 27).toInt = -1)) ∨ (r.toInt = 0 ∧ ¬ ((I v0 27).toInt = -1))) → Q r I L) : f_X12_fine v0 Z I L Q := by
  unfold f_X12_fine
  refine ⟨fun c1 => ?_, fun c1 => ?_⟩
  · skip
    first | (have t2 : ¬ ((I v0 27).toInt = (-1)) := (not_congr (i_eq rfl (show (-1 : Int32).toInt = -1 from rfl))).mp c1) | (have t2 : ¬ ((I v0 27).toInt = (-1 : Int32).toInt) := (not_congr (i_eq rfl rfl)).mp c1) | skip
    have t3 : (0 : Int32).toInt = 0 := rfl
    exact hQ (0 : Int32) (by omega)
  · skip
    first | (have t4 : (I v0 27).toInt = (-1) := (i_eq rfl (show (-1 : Int32).toInt = -1 from rfl)).mp c1) | (have t4 : (I v0 27).toInt = (-1 : Int32).toInt := (i_eq rfl rfl).mp c1) | skip
    have t5 : (1 : Int32).toInt = 1 := rfl
    exact hQ (1 : Int32) (by omega)
def Ws_X12_fault : List (Nat × Nat) := [(12, 27)]
set_option maxHeartbeats 4000000 in
set_option maxRecDepth 100000 in
theorem s_X12_fault {Z : jZ} {I : jI} {L : jL} (w_I : WD Z I) (v0 : Nat) (v1 : Int32) (kv0 : jk Z v0 12) {Q : jI → jL → Prop} (hQ : ∀  (I' : jI) (L' : jL), WD Z I' → FR Ws_X12_fault Z I Z I' → (((I v0 27).toInt = -1 ∧ (I' v0 27).toInt = v1.toInt) ∨ (¬ (I v0 27).toInt = -1 ∧ (I' v0 27).toInt = (I v0 27).toInt)) → Q I' L') : f_X12_fault v0 v1 Z I L Q := by
  unfold f_X12_fault
  have q_I : FR Ws_X12_fault Z I Z I := FR.rf
  have rv1 := i_rng v1
  refine s_X12_fine w_I v0 kv0   (fun r1 p2 => ?_)
  have rr1 := i_rng r1
  refine ⟨fun c3 => ?_, fun c3 => ?_⟩
  · skip
    first | (have t4 : r1.toInt = (0) := (i_eq rfl (show (0 : Int32).toInt = 0 from rfl)).mp c3) | (have t4 : r1.toInt = (0 : Int32).toInt := (i_eq rfl rfl).mp c3) | skip
    exact hQ  I L w_I q_I (by omega)
  · skip
    first | (have t5 : ¬ (r1.toInt = (0)) := (not_congr (i_eq rfl (show (0 : Int32).toInt = 0 from rfl))).mp c3) | (have t5 : ¬ (r1.toInt = (0 : Int32).toInt) := (not_congr (i_eq rfl rfl)).mp c3) | skip
    intro I6 eI6
    have w_I6 : WD Z I6 := by rw [eI6]; exact WD_putF w_I 12 27 kv0 (by decide) (by decide) trivial
    have f_I6 : FR [(12, 27)] Z I Z I6 := by rw [eI6]; exact FR_putF kv0 (by decide) List.mem_cons_self
    have q_I6 : FR Ws_X12_fault Z I Z I6 := q_I.trans w_I.1 w_I.2.1 (f_I6.mono (by decide))
    first | (have u7 : (I6 v0 27).toInt = v1.toInt := by (rw [eI6, show jpI I v0 27 v1 v0 27 = v1 from jpI_at] <;> exact rfl)) | skip
    exact hQ  I6 L w_I6 q_I6 (by omega)
def Ws_X12_passes : List (Nat × Nat) := [(12, 26)]
set_option maxHeartbeats 4000000 in
set_option maxRecDepth 100000 in
theorem s_X12_passes {Z : jZ} {I : jI} {L : jL} (w_I : WD Z I) (v0 : Nat) (v1 : Int32) (kv0 : jk Z v0 12) (uR : Nat) (huR : jr Z v0 23 = some uR) (kuR : jk Z uR 13) (p0 : 0 ≤ (I v0 26).toInt ∧ (I v0 26).toInt ≤ (I v0 24).toInt ∧ (I v0 26).toInt ≤ (I v0 25).toInt ∧ (I v0 24).toInt ≤ (jlen Z uR : Int) ∧ jlen Z uR ≤ 80) (p1 : 0 ≤ v1.toInt) {Q : Int32 → jI → jL → Prop} (hQ : ∀ (r : Int32) (I' : jI) (L' : jL), WD Z I' → FR Ws_X12_passes Z I Z I' → ((r.toInt = 1 ∧ (I' v0 26).toInt = (I v0 26).toInt + 1 ∧ (I v0 26).toInt < (I v0 24).toInt ∧ (I v0 26).toInt < (I v0 25).toInt ∧ (I v0 27).toInt = -1) ∨ (r.toInt = 0 ∧ (I' v0 26).toInt = (I v0 26).toInt)) → Q r I' L') : f_X12_passes v0 v1 Z I L Q := by
  unfold f_X12_passes
  have q_I : FR Ws_X12_passes Z I Z I := FR.rf
  have rv1 := i_rng v1
  refine s_X12_fine w_I v0 kv0   (fun r1 p2 => ?_)
  have rr1 := i_rng r1
  refine ⟨fun c3 => ?_, fun c3 => ?_⟩
  · skip
    first | (have t4 : r1.toInt = (0) := (i_eq rfl (show (0 : Int32).toInt = 0 from rfl)).mp c3) | (have t4 : r1.toInt = (0 : Int32).toInt := (i_eq rfl rfl).mp c3) | skip
    have t5 : (0 : Int32).toInt = 0 := rfl
    exact hQ (0 : Int32) I L w_I q_I (by omega)
  · skip
    first | (have t6 : ¬ (r1.toInt = (0)) := (not_congr (i_eq rfl (show (0 : Int32).toInt = 0 from rfl))).mp c3) | (have t6 : ¬ (r1.toInt = (0 : Int32).toInt) := (not_congr (i_eq rfl rfl)).mp c3) | skip
    refine s_X12_here w_I v0 kv0 uR huR kuR (by omega) (fun r7 p8 => ?_)
    have rr7 := i_rng r7
    refine ⟨fun c9 => ?_, fun c9 => ?_⟩
    · skip
      first | (have t10 : r7.toInt = v1.toInt := (i_eq rfl rfl).mp c9) | (have t10 : r7.toInt = v1.toInt := (i_eq rfl rfl).mp c9) | skip
      intro I11 eI11
      try (have t12 : ((I v0 26) + (1 : Int32)).toInt = ((I v0 26).toInt + (1)) := (i_add rfl (show (1 : Int32).toInt = 1 from rfl) (by omega) (by omega)))
      have w_I11 : WD Z I11 := by rw [eI11]; exact WD_putF w_I 12 26 kv0 (by decide) (by decide) trivial
      have f_I11 : FR [(12, 26)] Z I Z I11 := by rw [eI11]; exact FR_putF kv0 (by decide) List.mem_cons_self
      have q_I11 : FR Ws_X12_passes Z I Z I11 := q_I.trans w_I.1 w_I.2.1 (f_I11.mono (by decide))
      have u13 : (I11 v0 24).toInt = (I v0 24).toInt := by rw [f_I11.2.2.1 v0 12 24 kv0 (by decide) (by decide)]
      have u14 : (I11 v0 25).toInt = (I v0 25).toInt := by rw [f_I11.2.2.1 v0 12 25 kv0 (by decide) (by decide)]
      have u15 : (I11 v0 27).toInt = (I v0 27).toInt := by rw [f_I11.2.2.1 v0 12 27 kv0 (by decide) (by decide)]
      first | (have u16 : (I11 v0 26).toInt = ((I v0 26).toInt + (1)) := by (rw [eI11, show jpI I v0 26 ((I v0 26) + (1 : Int32)) v0 26 = ((I v0 26) + (1 : Int32)) from jpI_at] <;> exact (i_add rfl (show (1 : Int32).toInt = 1 from rfl) (by omega) (by omega)))) | skip
      have t17 : (1 : Int32).toInt = 1 := rfl
      exact hQ (1 : Int32) I11 L w_I11 q_I11 (by omega)
    · skip
      first | (have t18 : ¬ (r7.toInt = v1.toInt) := (not_congr (i_eq rfl rfl)).mp c9) | (have t18 : ¬ (r7.toInt = v1.toInt) := (not_congr (i_eq rfl rfl)).mp c9) | skip
      have t19 : (0 : Int32).toInt = 0 := rfl
      exact hQ (0 : Int32) I L w_I q_I (by omega)
def Ws_X12_need : List (Nat × Nat) := [(12, 26), (12, 27)]
set_option maxHeartbeats 4000000 in
set_option maxRecDepth 100000 in
theorem s_X12_need {Z : jZ} {I : jI} {L : jL} (w_I : WD Z I) (v0 : Nat) (v1 : Int32) (kv0 : jk Z v0 12) (uR : Nat) (huR : jr Z v0 23 = some uR) (kuR : jk Z uR 13) (p0 : 0 ≤ (I v0 26).toInt ∧ (I v0 26).toInt ≤ (I v0 24).toInt ∧ (I v0 26).toInt ≤ (I v0 25).toInt ∧ (I v0 24).toInt ≤ (jlen Z uR : Int) ∧ jlen Z uR ≤ 80) (p1 : 0 ≤ v1.toInt) {Q : jI → jL → Prop} (hQ : ∀  (I' : jI) (L' : jL), WD Z I' → FR Ws_X12_need Z I Z I' → ((I v0 26).toInt ≤ (I' v0 26).toInt ∧ (I' v0 26).toInt ≤ (I v0 24).toInt ∧ (I' v0 26).toInt ≤ (I v0 25).toInt ∧ (¬ (I v0 27).toInt = -1 → ¬ (I' v0 27).toInt = -1)) → Q I' L') : f_X12_need v0 v1 Z I L Q := by
  unfold f_X12_need
  have q_I : FR Ws_X12_need Z I Z I := FR.rf
  have rv1 := i_rng v1
  refine s_X12_passes w_I v0 v1 kv0 uR huR kuR (by omega) (by omega) (fun r1 I3 L4 w_I3 f_I3 p2 => ?_)
  have q_I3 : FR Ws_X12_need Z I Z I3 := q_I.trans w_I.1 w_I.2.1 (f_I3.mono (by decide))
  have u5 : (I3 v0 24).toInt = (I v0 24).toInt := by rw [f_I3.2.2.1 v0 12 24 kv0 (by decide) (by decide)]
  have u6 : (I3 v0 25).toInt = (I v0 25).toInt := by rw [f_I3.2.2.1 v0 12 25 kv0 (by decide) (by decide)]
  have u7 : (I3 v0 27).toInt = (I v0 27).toInt := by rw [f_I3.2.2.1 v0 12 27 kv0 (by decide) (by decide)]
  have rr1 := i_rng r1
  refine ⟨fun c8 => ?_, fun c8 => ?_⟩
  · skip
    first | (have t9 : ¬ (r1.toInt = (0)) := (not_congr (i_eq rfl (show (0 : Int32).toInt = 0 from rfl))).mp c8) | (have t9 : ¬ (r1.toInt = (0 : Int32).toInt) := (not_congr (i_eq rfl rfl)).mp c8) | skip
    exact hQ  I3 L4 w_I3 q_I3 (by omega)
  · skip
    first | (have t10 : r1.toInt = (0) := (i_eq rfl (show (0 : Int32).toInt = 0 from rfl)).mp c8) | (have t10 : r1.toInt = (0 : Int32).toInt := (i_eq rfl rfl).mp c8) | skip
    refine s_X12_fault w_I3 v0 (I3 v0 26) kv0   (fun  I12 L13 w_I12 f_I12 p11 => ?_)
    have q_I12 : FR Ws_X12_need Z I Z I12 := q_I3.trans w_I.1 w_I.2.1 (f_I12.mono (by decide))
    have u14 : (I12 v0 24).toInt = (I3 v0 24).toInt := by rw [f_I12.2.2.1 v0 12 24 kv0 (by decide) (by decide)]
    have u15 : (I12 v0 25).toInt = (I3 v0 25).toInt := by rw [f_I12.2.2.1 v0 12 25 kv0 (by decide) (by decide)]
    have u16 : (I12 v0 26).toInt = (I3 v0 26).toInt := by rw [f_I12.2.2.1 v0 12 26 kv0 (by decide) (by decide)]
    exact hQ  I12 L13 w_I12 q_I12 (by omega)
def Ws_X12_number : List (Nat × Nat) := [(12, 26), (12, 27)]
set_option maxHeartbeats 4000000 in
set_option maxRecDepth 100000 in
theorem l_X12_number_L18 {Z : jZ} {I0 : jI} {Q : Int32 → jI → jL → Prop} (w0 : WD Z I0) (v0 : Nat) (v1 : Int32) (v2 : Int32) (v3 : Int32) (kv0 : jk Z v0 12) (uR : Nat) (huR : jr Z v0 23 = some uR) (kuR : jk Z uR 13) (p0 : 0 ≤ (I0 v0 26).toInt ∧ (I0 v0 26).toInt ≤ (I0 v0 24).toInt ∧ (I0 v0 26).toInt ≤ (I0 v0 25).toInt ∧ (I0 v0 24).toInt ≤ (jlen Z uR : Int) ∧ jlen Z uR ≤ 80) (p1 : 1 ≤ v1.toInt ∧ v1.toInt ≤ 3) (v4 : Int32) (hQ : ∀ (r : Int32) (I' : jI) (L' : jL), WD Z I' → FR Ws_X12_number Z I0 Z I' → ((I0 v0 26).toInt ≤ (I' v0 26).toInt ∧ (I' v0 26).toInt ≤ (I0 v0 24).toInt ∧ (I' v0 26).toInt ≤ (I0 v0 25).toInt ∧ (¬ (I0 v0 27).toInt = -1 → ¬ (I' v0 27).toInt = -1) ∧ (((I' v0 27).toInt = -1 ∧ v2.toInt ≤ r.toInt ∧ r.toInt ≤ v3.toInt) ∨ (¬ (I' v0 27).toInt = -1 ∧ r.toInt = 0))) → Q r I' L') : ∀ (n : Nat) (v5 : Int32) (I : jI) (L : jL), WD Z I → FR Ws_X12_number Z I0 Z I →   (0 ≤ (I v0 26).toInt ∧ (I v0 26).toInt ≤ (I v0 24).toInt ∧ (I v0 26).toInt ≤ (I v0 25).toInt ∧ (I v0 24).toInt ≤ (jlen Z uR : Int) ∧ jlen Z uR ≤ 80 ∧ v4.toInt = (I0 v0 26).toInt ∧ v4.toInt ≤ (I v0 26).toInt ∧ (I v0 26).toInt ≤ v4.toInt + v1.toInt ∧ (I v0 24).toInt = (I0 v0 24).toInt ∧ (I v0 25).toInt = (I0 v0 25).toInt ∧ (I v0 27).toInt = -1 ∧ (I0 v0 27).toInt = -1) → v4.toInt + v1.toInt - (I v0 26).toInt < (n : Int) → f_X12_number_L18  Z Q n v0 v1 v2 v3 v4 v5 I L := by
  intro n
  induction n with
  | zero =>
    intro v5 I L w_I q_I   li  me
    exfalso
    omega
  | succ n ih =>
    intro v5 I L w_I q_I   li  me
    unfold f_X12_number_L18
    have rv5 := i_rng v5
    have rv4 := i_rng v4
    have rv1 := i_rng v1
    have rv2 := i_rng v2
    have rv3 := i_rng v3
    refine ⟨fun c1 => ?_, fun c1 => ?_⟩
    · skip
      first | (have t2 : (v4.toInt + v1.toInt) ≤ (I v0 26).toInt := (i_le (i_add rfl rfl (by omega) (by omega)) rfl).mp c1) | (have t2 : (v4 + v1).toInt ≤ (I v0 26).toInt := (i_le rfl rfl).mp c1) | skip
      unfold f_X12_number_b71
      refine ⟨fun c3 => ?_, fun c3 => ?_⟩
      · skip
        first | (have t4 : ¬ ((I v0 26).toInt = v4.toInt) := (not_congr (i_eq rfl rfl)).mp c3) | (have t4 : ¬ ((I v0 26).toInt = v4.toInt) := (not_congr (i_eq rfl rfl)).mp c3) | skip
        refine s_X12_in w_I v5 v2 v3    (fun r5 p6 => ?_)
        have rr5 := i_rng r5
        refine ⟨fun c7 => ?_, fun c7 => ?_⟩
        · skip
          first | (have t8 : ¬ (r5.toInt = (0)) := (not_congr (i_eq rfl (show (0 : Int32).toInt = 0 from rfl))).mp c7) | (have t8 : ¬ (r5.toInt = (0 : Int32).toInt) := (not_congr (i_eq rfl rfl)).mp c7) | skip
          unfold f_X12_number_b111
          refine s_X12_fine w_I v0 kv0   (fun r9 p10 => ?_)
          have rr9 := i_rng r9
          refine ⟨fun c11 => ?_, fun c11 => ?_⟩
          · skip
            first | (have t12 : r9.toInt = (0) := (i_eq rfl (show (0 : Int32).toInt = 0 from rfl)).mp c11) | (have t12 : r9.toInt = (0 : Int32).toInt := (i_eq rfl rfl).mp c11) | skip
            have t13 : (0 : Int32).toInt = 0 := rfl
            exact hQ (0 : Int32) I L w_I q_I (by omega)
          · skip
            first | (have t14 : ¬ (r9.toInt = (0)) := (not_congr (i_eq rfl (show (0 : Int32).toInt = 0 from rfl))).mp c11) | (have t14 : ¬ (r9.toInt = (0 : Int32).toInt) := (not_congr (i_eq rfl rfl)).mp c11) | skip
            exact hQ v5 I L w_I q_I (by omega)
        · skip
          first | (have t15 : r5.toInt = (0) := (i_eq rfl (show (0 : Int32).toInt = 0 from rfl)).mp c7) | (have t15 : r5.toInt = (0 : Int32).toInt := (i_eq rfl rfl).mp c7) | skip
          try (have t16 : ((I v0 26) - (1 : Int32)).toInt = ((I v0 26).toInt - (1)) := (i_sub rfl (show (1 : Int32).toInt = 1 from rfl) (by omega) (by omega)))
          refine s_X12_fault w_I v0 ((I v0 26) - (1 : Int32)) kv0   (fun  I18 L19 w_I18 f_I18 p17 => ?_)
          have q_I18 : FR Ws_X12_number Z I0 Z I18 := q_I.trans w0.1 w0.2.1 (f_I18.mono (by decide))
          have u20 : (I18 v0 24).toInt = (I v0 24).toInt := by rw [f_I18.2.2.1 v0 12 24 kv0 (by decide) (by decide)]
          have u21 : (I18 v0 25).toInt = (I v0 25).toInt := by rw [f_I18.2.2.1 v0 12 25 kv0 (by decide) (by decide)]
          have u22 : (I18 v0 26).toInt = (I v0 26).toInt := by rw [f_I18.2.2.1 v0 12 26 kv0 (by decide) (by decide)]
          unfold f_X12_number_b111
          refine s_X12_fine w_I18 v0 kv0   (fun r23 p24 => ?_)
          have rr23 := i_rng r23
          refine ⟨fun c25 => ?_, fun c25 => ?_⟩
          · skip
            first | (have t26 : r23.toInt = (0) := (i_eq rfl (show (0 : Int32).toInt = 0 from rfl)).mp c25) | (have t26 : r23.toInt = (0 : Int32).toInt := (i_eq rfl rfl).mp c25) | skip
            have t27 : (0 : Int32).toInt = 0 := rfl
            exact hQ (0 : Int32) I18 L19 w_I18 q_I18 (by omega)
          · skip
            first | (have t28 : ¬ (r23.toInt = (0)) := (not_congr (i_eq rfl (show (0 : Int32).toInt = 0 from rfl))).mp c25) | (have t28 : ¬ (r23.toInt = (0 : Int32).toInt) := (not_congr (i_eq rfl rfl)).mp c25) | skip
            exact hQ v5 I18 L19 w_I18 q_I18 (by omega)
      · skip
        first | (have t29 : (I v0 26).toInt = v4.toInt := (i_eq rfl rfl).mp c3) | (have t29 : (I v0 26).toInt = v4.toInt := (i_eq rfl rfl).mp c3) | skip
        refine s_X12_fault w_I v0 (I v0 26) kv0   (fun  I31 L32 w_I31 f_I31 p30 => ?_)
        have q_I31 : FR Ws_X12_number Z I0 Z I31 := q_I.trans w0.1 w0.2.1 (f_I31.mono (by decide))
        have u33 : (I31 v0 24).toInt = (I v0 24).toInt := by rw [f_I31.2.2.1 v0 12 24 kv0 (by decide) (by decide)]
        have u34 : (I31 v0 25).toInt = (I v0 25).toInt := by rw [f_I31.2.2.1 v0 12 25 kv0 (by decide) (by decide)]
        have u35 : (I31 v0 26).toInt = (I v0 26).toInt := by rw [f_I31.2.2.1 v0 12 26 kv0 (by decide) (by decide)]
        unfold f_X12_number_b111
        refine s_X12_fine w_I31 v0 kv0   (fun r36 p37 => ?_)
        have rr36 := i_rng r36
        refine ⟨fun c38 => ?_, fun c38 => ?_⟩
        · skip
          first | (have t39 : r36.toInt = (0) := (i_eq rfl (show (0 : Int32).toInt = 0 from rfl)).mp c38) | (have t39 : r36.toInt = (0 : Int32).toInt := (i_eq rfl rfl).mp c38) | skip
          have t40 : (0 : Int32).toInt = 0 := rfl
          exact hQ (0 : Int32) I31 L32 w_I31 q_I31 (by omega)
        · skip
          first | (have t41 : ¬ (r36.toInt = (0)) := (not_congr (i_eq rfl (show (0 : Int32).toInt = 0 from rfl))).mp c38) | (have t41 : ¬ (r36.toInt = (0 : Int32).toInt) := (not_congr (i_eq rfl rfl)).mp c38) | skip
          exact hQ v5 I31 L32 w_I31 q_I31 (by omega)
    · skip
      first | (have t42 : ¬ ((v4.toInt + v1.toInt) ≤ (I v0 26).toInt) := (not_congr (i_le (i_add rfl rfl (by omega) (by omega)) rfl)).mp c1) | (have t42 : ¬ ((v4 + v1).toInt ≤ (I v0 26).toInt) := (not_congr (i_le rfl rfl)).mp c1) | skip
      refine s_X12_here w_I v0 kv0 uR huR kuR (by omega) (fun r43 p44 => ?_)
      have rr43 := i_rng r43
      have t45 : (48 : Int32).toInt = 48 := rfl
      have t46 : (57 : Int32).toInt = 57 := rfl
      refine s_X12_in w_I r43 (48 : Int32) (57 : Int32)    (fun r47 p48 => ?_)
      have rr47 := i_rng r47
      refine ⟨fun c49 => ?_, fun c49 => ?_⟩
      · skip
        first | (have t50 : r47.toInt = (0) := (i_eq rfl (show (0 : Int32).toInt = 0 from rfl)).mp c49) | (have t50 : r47.toInt = (0 : Int32).toInt := (i_eq rfl rfl).mp c49) | skip
        unfold f_X12_number_b71
        refine ⟨fun c51 => ?_, fun c51 => ?_⟩
        · skip
          first | (have t52 : ¬ ((I v0 26).toInt = v4.toInt) := (not_congr (i_eq rfl rfl)).mp c51) | (have t52 : ¬ ((I v0 26).toInt = v4.toInt) := (not_congr (i_eq rfl rfl)).mp c51) | skip
          refine s_X12_in w_I v5 v2 v3    (fun r53 p54 => ?_)
          have rr53 := i_rng r53
          refine ⟨fun c55 => ?_, fun c55 => ?_⟩
          · skip
            first | (have t56 : ¬ (r53.toInt = (0)) := (not_congr (i_eq rfl (show (0 : Int32).toInt = 0 from rfl))).mp c55) | (have t56 : ¬ (r53.toInt = (0 : Int32).toInt) := (not_congr (i_eq rfl rfl)).mp c55) | skip
            unfold f_X12_number_b111
            refine s_X12_fine w_I v0 kv0   (fun r57 p58 => ?_)
            have rr57 := i_rng r57
            refine ⟨fun c59 => ?_, fun c59 => ?_⟩
            · skip
              first | (have t60 : r57.toInt = (0) := (i_eq rfl (show (0 : Int32).toInt = 0 from rfl)).mp c59) | (have t60 : r57.toInt = (0 : Int32).toInt := (i_eq rfl rfl).mp c59) | skip
              have t61 : (0 : Int32).toInt = 0 := rfl
              exact hQ (0 : Int32) I L w_I q_I (by omega)
            · skip
              first | (have t62 : ¬ (r57.toInt = (0)) := (not_congr (i_eq rfl (show (0 : Int32).toInt = 0 from rfl))).mp c59) | (have t62 : ¬ (r57.toInt = (0 : Int32).toInt) := (not_congr (i_eq rfl rfl)).mp c59) | skip
              exact hQ v5 I L w_I q_I (by omega)
          · skip
            first | (have t63 : r53.toInt = (0) := (i_eq rfl (show (0 : Int32).toInt = 0 from rfl)).mp c55) | (have t63 : r53.toInt = (0 : Int32).toInt := (i_eq rfl rfl).mp c55) | skip
            try (have t64 : ((I v0 26) - (1 : Int32)).toInt = ((I v0 26).toInt - (1)) := (i_sub rfl (show (1 : Int32).toInt = 1 from rfl) (by omega) (by omega)))
            refine s_X12_fault w_I v0 ((I v0 26) - (1 : Int32)) kv0   (fun  I66 L67 w_I66 f_I66 p65 => ?_)
            have q_I66 : FR Ws_X12_number Z I0 Z I66 := q_I.trans w0.1 w0.2.1 (f_I66.mono (by decide))
            have u68 : (I66 v0 24).toInt = (I v0 24).toInt := by rw [f_I66.2.2.1 v0 12 24 kv0 (by decide) (by decide)]
            have u69 : (I66 v0 25).toInt = (I v0 25).toInt := by rw [f_I66.2.2.1 v0 12 25 kv0 (by decide) (by decide)]
            have u70 : (I66 v0 26).toInt = (I v0 26).toInt := by rw [f_I66.2.2.1 v0 12 26 kv0 (by decide) (by decide)]
            unfold f_X12_number_b111
            refine s_X12_fine w_I66 v0 kv0   (fun r71 p72 => ?_)
            have rr71 := i_rng r71
            refine ⟨fun c73 => ?_, fun c73 => ?_⟩
            · skip
              first | (have t74 : r71.toInt = (0) := (i_eq rfl (show (0 : Int32).toInt = 0 from rfl)).mp c73) | (have t74 : r71.toInt = (0 : Int32).toInt := (i_eq rfl rfl).mp c73) | skip
              have t75 : (0 : Int32).toInt = 0 := rfl
              exact hQ (0 : Int32) I66 L67 w_I66 q_I66 (by omega)
            · skip
              first | (have t76 : ¬ (r71.toInt = (0)) := (not_congr (i_eq rfl (show (0 : Int32).toInt = 0 from rfl))).mp c73) | (have t76 : ¬ (r71.toInt = (0 : Int32).toInt) := (not_congr (i_eq rfl rfl)).mp c73) | skip
              exact hQ v5 I66 L67 w_I66 q_I66 (by omega)
        · skip
          first | (have t77 : (I v0 26).toInt = v4.toInt := (i_eq rfl rfl).mp c51) | (have t77 : (I v0 26).toInt = v4.toInt := (i_eq rfl rfl).mp c51) | skip
          refine s_X12_fault w_I v0 (I v0 26) kv0   (fun  I79 L80 w_I79 f_I79 p78 => ?_)
          have q_I79 : FR Ws_X12_number Z I0 Z I79 := q_I.trans w0.1 w0.2.1 (f_I79.mono (by decide))
          have u81 : (I79 v0 24).toInt = (I v0 24).toInt := by rw [f_I79.2.2.1 v0 12 24 kv0 (by decide) (by decide)]
          have u82 : (I79 v0 25).toInt = (I v0 25).toInt := by rw [f_I79.2.2.1 v0 12 25 kv0 (by decide) (by decide)]
          have u83 : (I79 v0 26).toInt = (I v0 26).toInt := by rw [f_I79.2.2.1 v0 12 26 kv0 (by decide) (by decide)]
          unfold f_X12_number_b111
          refine s_X12_fine w_I79 v0 kv0   (fun r84 p85 => ?_)
          have rr84 := i_rng r84
          refine ⟨fun c86 => ?_, fun c86 => ?_⟩
          · skip
            first | (have t87 : r84.toInt = (0) := (i_eq rfl (show (0 : Int32).toInt = 0 from rfl)).mp c86) | (have t87 : r84.toInt = (0 : Int32).toInt := (i_eq rfl rfl).mp c86) | skip
            have t88 : (0 : Int32).toInt = 0 := rfl
            exact hQ (0 : Int32) I79 L80 w_I79 q_I79 (by omega)
          · skip
            first | (have t89 : ¬ (r84.toInt = (0)) := (not_congr (i_eq rfl (show (0 : Int32).toInt = 0 from rfl))).mp c86) | (have t89 : ¬ (r84.toInt = (0 : Int32).toInt) := (not_congr (i_eq rfl rfl)).mp c86) | skip
            exact hQ v5 I79 L80 w_I79 q_I79 (by omega)
      · skip
        first | (have t90 : ¬ (r47.toInt = (0)) := (not_congr (i_eq rfl (show (0 : Int32).toInt = 0 from rfl))).mp c49) | (have t90 : ¬ (r47.toInt = (0 : Int32).toInt) := (not_congr (i_eq rfl rfl)).mp c49) | skip
        refine s_X12_here w_I v0 kv0 uR huR kuR (by omega) (fun r91 p92 => ?_)
        have rr91 := i_rng r91
        intro x93 ex93
        have rx93 := i_rng x93
        first | (have tx93 : x93.toInt = ((((10) * v5.toInt) + r91.toInt) - (48)) := by (rw [ex93]; exact (i_sub (i_add (i_mul (show (10 : Int32).toInt = 10 from rfl) rfl (by omega) (by omega)) rfl (by omega) (by omega)) (show (48 : Int32).toInt = 48 from rfl) (by omega) (by omega)))) | (have tx93 : x93.toInt = ((((10 : Int32) * v5) + r91) - (48 : Int32)).toInt := by rw [ex93])
        intro I94 eI94
        try (have t95 : ((I v0 26) + (1 : Int32)).toInt = ((I v0 26).toInt + (1)) := (i_add rfl (show (1 : Int32).toInt = 1 from rfl) (by omega) (by omega)))
        have w_I94 : WD Z I94 := by rw [eI94]; exact WD_putF w_I 12 26 kv0 (by decide) (by decide) trivial
        have f_I94 : FR [(12, 26)] Z I Z I94 := by rw [eI94]; exact FR_putF kv0 (by decide) List.mem_cons_self
        have q_I94 : FR Ws_X12_number Z I0 Z I94 := q_I.trans w0.1 w0.2.1 (f_I94.mono (by decide))
        have u96 : (I94 v0 24).toInt = (I v0 24).toInt := by rw [f_I94.2.2.1 v0 12 24 kv0 (by decide) (by decide)]
        have u97 : (I94 v0 25).toInt = (I v0 25).toInt := by rw [f_I94.2.2.1 v0 12 25 kv0 (by decide) (by decide)]
        have u98 : (I94 v0 27).toInt = (I v0 27).toInt := by rw [f_I94.2.2.1 v0 12 27 kv0 (by decide) (by decide)]
        first | (have u99 : (I94 v0 26).toInt = ((I v0 26).toInt + (1)) := by (rw [eI94, show jpI I v0 26 ((I v0 26) + (1 : Int32)) v0 26 = ((I v0 26) + (1 : Int32)) from jpI_at] <;> exact (i_add rfl (show (1 : Int32).toInt = 1 from rfl) (by omega) (by omega)))) | skip
        exact ih x93 I94 L w_I94 q_I94   (by omega)  (by omega)
set_option maxHeartbeats 4000000 in
set_option maxRecDepth 100000 in
theorem s_X12_number {Z : jZ} {I : jI} {L : jL} (w_I : WD Z I) (v0 : Nat) (v1 : Int32) (v2 : Int32) (v3 : Int32) (kv0 : jk Z v0 12) (uR : Nat) (huR : jr Z v0 23 = some uR) (kuR : jk Z uR 13) (p0 : 0 ≤ (I v0 26).toInt ∧ (I v0 26).toInt ≤ (I v0 24).toInt ∧ (I v0 26).toInt ≤ (I v0 25).toInt ∧ (I v0 24).toInt ≤ (jlen Z uR : Int) ∧ jlen Z uR ≤ 80) (p1 : 1 ≤ v1.toInt ∧ v1.toInt ≤ 3) {Q : Int32 → jI → jL → Prop} (hQ : ∀ (r : Int32) (I' : jI) (L' : jL), WD Z I' → FR Ws_X12_number Z I Z I' → ((I v0 26).toInt ≤ (I' v0 26).toInt ∧ (I' v0 26).toInt ≤ (I v0 24).toInt ∧ (I' v0 26).toInt ≤ (I v0 25).toInt ∧ (¬ (I v0 27).toInt = -1 → ¬ (I' v0 27).toInt = -1) ∧ (((I' v0 27).toInt = -1 ∧ v2.toInt ≤ r.toInt ∧ r.toInt ≤ v3.toInt) ∨ (¬ (I' v0 27).toInt = -1 ∧ r.toInt = 0))) → Q r I' L') : f_X12_number v0 v1 v2 v3 Z I L Q := by
  unfold f_X12_number
  have q_I : FR Ws_X12_number Z I Z I := FR.rf
  have rv1 := i_rng v1
  have rv2 := i_rng v2
  have rv3 := i_rng v3
  refine s_X12_fine w_I v0 kv0   (fun r100 p101 => ?_)
  have rr100 := i_rng r100
  refine ⟨fun c102 => ?_, fun c102 => ?_⟩
  · skip
    first | (have t103 : ¬ (r100.toInt = (0)) := (not_congr (i_eq rfl (show (0 : Int32).toInt = 0 from rfl))).mp c102) | (have t103 : ¬ (r100.toInt = (0 : Int32).toInt) := (not_congr (i_eq rfl rfl)).mp c102) | skip
    intro x104 ex104
    have rx104 := i_rng x104
    first | (have tx104 : x104.toInt = (I v0 26).toInt := by (rw [ex104]; exact rfl)) | (have tx104 : x104.toInt = (I v0 26).toInt := by rw [ex104])
    have t105 : (0 : Int32).toInt = 0 := rfl
    exact ⟨(x104.toInt + v1.toInt - (I v0 26).toInt).toNat + 1, l_X12_number_L18 w_I v0 v1 v2 v3 kv0 uR huR kuR p0 p1 x104  hQ   _ (0 : Int32) I L w_I q_I   (by omega)  (by omega)⟩
  · skip
    first | (have t106 : r100.toInt = (0) := (i_eq rfl (show (0 : Int32).toInt = 0 from rfl)).mp c102) | (have t106 : r100.toInt = (0 : Int32).toInt := (i_eq rfl rfl).mp c102) | skip
    have t107 : (0 : Int32).toInt = 0 := rfl
    exact hQ (0 : Int32) I L w_I q_I (by omega)
def Ws_X12_readLine : List (Nat × Nat) := [(12, 26), (12, 27), (12, 28)]
set_option maxHeartbeats 4000000 in
set_option maxRecDepth 100000 in
theorem l_X12_readLine_L109 {Z : jZ} {I0 : jI} {Q : Int32 → jI → jL → Prop} (w0 : WD Z I0) (v0 : Nat) (v1 : Int32) (kv0 : jk Z v0 12) (uR : Nat) (huR : jr Z v0 23 = some uR) (kuR : jk Z uR 13) (p0 : 0 ≤ (I0 v0 26).toInt ∧ (I0 v0 26).toInt ≤ (I0 v0 24).toInt ∧ (I0 v0 26).toInt ≤ (I0 v0 25).toInt ∧ (I0 v0 24).toInt ≤ (jlen Z uR : Int) ∧ jlen Z uR ≤ 80) (p1 : 0 ≤ v1.toInt ∧ v1.toInt ≤ 23) (v2 : Int32) (v3 : Int32) (v4 : Int32) (v5 : Int32) (v6 : Int32) (v7 : Int32) (hQ : ∀ (r : Int32) (I' : jI) (L' : jL), WD Z I' → FR Ws_X12_readLine Z I0 Z I' → ((I0 v0 26).toInt ≤ (I' v0 26).toInt ∧ (I' v0 26).toInt ≤ (I0 v0 24).toInt ∧ (I' v0 26).toInt ≤ (I0 v0 25).toInt ∧ (¬ (I0 v0 27).toInt = -1 → ¬ (I' v0 27).toInt = -1) ∧ v1.toInt ≤ r.toInt ∧ r.toInt ≤ 24 ∧ ((I' v0 27).toInt = -1 → v1.toInt < r.toInt)) → Q r I' L') : ∀ (n : Nat) (v8 : Int32) (I : jI) (L : jL), WD Z I → FR Ws_X12_readLine Z I0 Z I →   (0 ≤ v8.toInt ∧ v8.toInt ≤ v7.toInt ∧ 1 ≤ v7.toInt ∧ v1.toInt + v7.toInt ≤ 24 ∧ 1 ≤ v2.toInt ∧ v2.toInt ≤ 30 ∧ 0 ≤ v3.toInt ∧ v3.toInt ≤ 9 ∧ 0 ≤ v4.toInt ∧ v4.toInt ≤ 20 ∧ (I0 v0 26).toInt ≤ (I v0 26).toInt ∧ (I v0 26).toInt ≤ (I0 v0 24).toInt ∧ (I v0 26).toInt ≤ (I0 v0 25).toInt ∧ (I v0 27).toInt = -1 ∧ (I0 v0 27).toInt = -1) → 24 - v8.toInt < (n : Int) → f_X12_readLine_L109  Z Q n v0 v1 v2 v3 v4 v5 v6 v7 v8 I L := by
  intro n
  induction n with
  | zero =>
    intro v8 I L w_I q_I   li  me
    exfalso
    omega
  | succ n ih =>
    intro v8 I L w_I q_I   li  me
    unfold f_X12_readLine_L109
    have rv8 := i_rng v8
    have rv2 := i_rng v2
    have rv3 := i_rng v3
    have rv4 := i_rng v4
    have rv5 := i_rng v5
    have rv6 := i_rng v6
    have rv7 := i_rng v7
    have rv1 := i_rng v1
    refine ⟨fun c1 => ?_, fun c1 => ?_⟩
    · skip
      first | (have t2 : v7.toInt ≤ v8.toInt := (i_le rfl rfl).mp c1) | (have t2 : v7.toInt ≤ v8.toInt := (i_le rfl rfl).mp c1) | skip
      try (have t3 : (v1 + v7).toInt = (v1.toInt + v7.toInt) := (i_add rfl rfl (by omega) (by omega)))
      exact hQ (v1 + v7) I L w_I q_I (by omega)
    · skip
      first | (have t4 : ¬ (v7.toInt ≤ v8.toInt) := (not_congr (i_le rfl rfl)).mp c1) | (have t4 : ¬ (v7.toInt ≤ v8.toInt) := (not_congr (i_le rfl rfl)).mp c1) | skip
      intro x5 ex5
      have rx5 := i_rng x5
      first | (have tx5 : x5.toInt = ((5) * (v1.toInt + v8.toInt)) := by (rw [ex5]; exact (i_mul (show (5 : Int32).toInt = 5 from rfl) (i_add rfl rfl (by omega) (by omega)) (by omega) (by omega)))) | (have tx5 : x5.toInt = ((5 : Int32) * (v1 + v8)).toInt := by rw [ex5])
      intro b6 eb6
      obtain ⟨x7, ex7, kb6, lb6⟩ := sh_f w_I.1 kv0 (j := 28) (k := 14) (m := 120) rfl
      cases eb6.symm.trans ex7
      have o8 : vp_in x5 120 := vi_of rfl (by omega) (by omega)
      refine ⟨o8, ?_⟩
      intro I9 eI9
      have t10 := i_nat (x := x5) rfl (by omega)
      have w_I9 : WD Z I9 := by rw [eI9]; exact WD_putA w_I 12 28 kv0 eb6 kb6 rfl rfl (by decide) (by refine ⟨?_, ?_, ?_⟩ <;> intros <;> (constructor <;> omega))
      have f_I9 : FR [(12, 28)] Z I Z I9 := by rw [eI9]; exact FR_upA w_I.2.1 kv0 eb6 kb6 rfl rfl List.mem_cons_self
      have q_I9 : FR Ws_X12_readLine Z I0 Z I9 := q_I.trans w0.1 w0.2.1 (f_I9.mono (by decide))
      have u11 : (I9 v0 24).toInt = (I v0 24).toInt := by rw [f_I9.2.2.1 v0 12 24 kv0 (by decide) (by decide)]
      have u12 : (I9 v0 25).toInt = (I v0 25).toInt := by rw [f_I9.2.2.1 v0 12 25 kv0 (by decide) (by decide)]
      have u13 : (I9 v0 26).toInt = (I v0 26).toInt := by rw [f_I9.2.2.1 v0 12 26 kv0 (by decide) (by decide)]
      have u14 : (I9 v0 27).toInt = (I v0 27).toInt := by rw [f_I9.2.2.1 v0 12 27 kv0 (by decide) (by decide)]
      intro b15 eb15
      obtain rfl : b6 = b15 := Option.some.inj (eb6.symm.trans eb15)
      have o16 : vp_in (x5 + (1 : Int32)) 120 := vi_of (i_add rfl (show (1 : Int32).toInt = 1 from rfl) (by omega) (by omega)) (by omega) (by omega)
      refine ⟨o16, ?_⟩
      intro I17 eI17
      have t18 := i_nat (x := (x5 + (1 : Int32))) (i_add rfl (show (1 : Int32).toInt = 1 from rfl) (by omega) (by omega)) (by omega)
      have w_I17 : WD Z I17 := by rw [eI17]; exact WD_putA w_I9 12 28 kv0 eb6 kb6 rfl rfl (by decide) (by refine ⟨?_, ?_, ?_⟩ <;> intros <;> (constructor <;> omega))
      have f_I17 : FR [(12, 28)] Z I9 Z I17 := by rw [eI17]; exact FR_upA w_I9.2.1 kv0 eb6 kb6 rfl rfl List.mem_cons_self
      have q_I17 : FR Ws_X12_readLine Z I0 Z I17 := q_I9.trans w0.1 w0.2.1 (f_I17.mono (by decide))
      have u19 : (I17 v0 24).toInt = (I9 v0 24).toInt := by rw [f_I17.2.2.1 v0 12 24 kv0 (by decide) (by decide)]
      have u20 : (I17 v0 25).toInt = (I9 v0 25).toInt := by rw [f_I17.2.2.1 v0 12 25 kv0 (by decide) (by decide)]
      have u21 : (I17 v0 26).toInt = (I9 v0 26).toInt := by rw [f_I17.2.2.1 v0 12 26 kv0 (by decide) (by decide)]
      have u22 : (I17 v0 27).toInt = (I9 v0 27).toInt := by rw [f_I17.2.2.1 v0 12 27 kv0 (by decide) (by decide)]
      intro b23 eb23
      obtain rfl : b6 = b23 := Option.some.inj (eb6.symm.trans eb23)
      have o24 : vp_in (x5 + (2 : Int32)) 120 := vi_of (i_add rfl (show (2 : Int32).toInt = 2 from rfl) (by omega) (by omega)) (by omega) (by omega)
      refine ⟨o24, ?_⟩
      intro I25 eI25
      have t26 := i_nat (x := (x5 + (2 : Int32))) (i_add rfl (show (2 : Int32).toInt = 2 from rfl) (by omega) (by omega)) (by omega)
      have w_I25 : WD Z I25 := by rw [eI25]; exact WD_putA w_I17 12 28 kv0 eb6 kb6 rfl rfl (by decide) (by refine ⟨?_, ?_, ?_⟩ <;> intros <;> (constructor <;> omega))
      have f_I25 : FR [(12, 28)] Z I17 Z I25 := by rw [eI25]; exact FR_upA w_I17.2.1 kv0 eb6 kb6 rfl rfl List.mem_cons_self
      have q_I25 : FR Ws_X12_readLine Z I0 Z I25 := q_I17.trans w0.1 w0.2.1 (f_I25.mono (by decide))
      have u27 : (I25 v0 24).toInt = (I17 v0 24).toInt := by rw [f_I25.2.2.1 v0 12 24 kv0 (by decide) (by decide)]
      have u28 : (I25 v0 25).toInt = (I17 v0 25).toInt := by rw [f_I25.2.2.1 v0 12 25 kv0 (by decide) (by decide)]
      have u29 : (I25 v0 26).toInt = (I17 v0 26).toInt := by rw [f_I25.2.2.1 v0 12 26 kv0 (by decide) (by decide)]
      have u30 : (I25 v0 27).toInt = (I17 v0 27).toInt := by rw [f_I25.2.2.1 v0 12 27 kv0 (by decide) (by decide)]
      intro b31 eb31
      obtain rfl : b6 = b31 := Option.some.inj (eb6.symm.trans eb31)
      have o32 : vp_in (x5 + (3 : Int32)) 120 := vi_of (i_add rfl (show (3 : Int32).toInt = 3 from rfl) (by omega) (by omega)) (by omega) (by omega)
      refine ⟨o32, ?_⟩
      intro I33 eI33
      have t34 := i_nat (x := (x5 + (3 : Int32))) (i_add rfl (show (3 : Int32).toInt = 3 from rfl) (by omega) (by omega)) (by omega)
      have w_I33 : WD Z I33 := by rw [eI33]; exact WD_putA w_I25 12 28 kv0 eb6 kb6 rfl rfl (by decide) (by refine ⟨?_, ?_, ?_⟩ <;> intros <;> (constructor <;> omega))
      have f_I33 : FR [(12, 28)] Z I25 Z I33 := by rw [eI33]; exact FR_upA w_I25.2.1 kv0 eb6 kb6 rfl rfl List.mem_cons_self
      have q_I33 : FR Ws_X12_readLine Z I0 Z I33 := q_I25.trans w0.1 w0.2.1 (f_I33.mono (by decide))
      have u35 : (I33 v0 24).toInt = (I25 v0 24).toInt := by rw [f_I33.2.2.1 v0 12 24 kv0 (by decide) (by decide)]
      have u36 : (I33 v0 25).toInt = (I25 v0 25).toInt := by rw [f_I33.2.2.1 v0 12 25 kv0 (by decide) (by decide)]
      have u37 : (I33 v0 26).toInt = (I25 v0 26).toInt := by rw [f_I33.2.2.1 v0 12 26 kv0 (by decide) (by decide)]
      have u38 : (I33 v0 27).toInt = (I25 v0 27).toInt := by rw [f_I33.2.2.1 v0 12 27 kv0 (by decide) (by decide)]
      intro b39 eb39
      obtain rfl : b6 = b39 := Option.some.inj (eb6.symm.trans eb39)
      have o40 : vp_in (x5 + (4 : Int32)) 120 := vi_of (i_add rfl (show (4 : Int32).toInt = 4 from rfl) (by omega) (by omega)) (by omega) (by omega)
      refine ⟨o40, ?_⟩
      intro I41 eI41
      have t42 := i_nat (x := (x5 + (4 : Int32))) (i_add rfl (show (4 : Int32).toInt = 4 from rfl) (by omega) (by omega)) (by omega)
      have w_I41 : WD Z I41 := by rw [eI41]; exact WD_putA w_I33 12 28 kv0 eb6 kb6 rfl rfl (by decide) (by refine ⟨?_, ?_, ?_⟩ <;> intros <;> (constructor <;> omega))
      have f_I41 : FR [(12, 28)] Z I33 Z I41 := by rw [eI41]; exact FR_upA w_I33.2.1 kv0 eb6 kb6 rfl rfl List.mem_cons_self
      have q_I41 : FR Ws_X12_readLine Z I0 Z I41 := q_I33.trans w0.1 w0.2.1 (f_I41.mono (by decide))
      have u43 : (I41 v0 24).toInt = (I33 v0 24).toInt := by rw [f_I41.2.2.1 v0 12 24 kv0 (by decide) (by decide)]
      have u44 : (I41 v0 25).toInt = (I33 v0 25).toInt := by rw [f_I41.2.2.1 v0 12 25 kv0 (by decide) (by decide)]
      have u45 : (I41 v0 26).toInt = (I33 v0 26).toInt := by rw [f_I41.2.2.1 v0 12 26 kv0 (by decide) (by decide)]
      have u46 : (I41 v0 27).toInt = (I33 v0 27).toInt := by rw [f_I41.2.2.1 v0 12 27 kv0 (by decide) (by decide)]
      intro x47 ex47
      have rx47 := i_rng x47
      first | (have tx47 : x47.toInt = v8.toInt + (1) := by (rw [ex47]; exact (i_add rfl (show (1 : Int32).toInt = 1 from rfl) (by omega) (by omega)))) | skip
      exact ih x47 I41 L w_I41 q_I41   (by omega)  (by omega)
set_option maxHeartbeats 4000000 in
set_option maxRecDepth 100000 in
theorem s_X12_readLine {Z : jZ} {I : jI} {L : jL} (w_I : WD Z I) (v0 : Nat) (v1 : Int32) (kv0 : jk Z v0 12) (uR : Nat) (huR : jr Z v0 23 = some uR) (kuR : jk Z uR 13) (p0 : 0 ≤ (I v0 26).toInt ∧ (I v0 26).toInt ≤ (I v0 24).toInt ∧ (I v0 26).toInt ≤ (I v0 25).toInt ∧ (I v0 24).toInt ≤ (jlen Z uR : Int) ∧ jlen Z uR ≤ 80) (p1 : 0 ≤ v1.toInt ∧ v1.toInt ≤ 23) {Q : Int32 → jI → jL → Prop} (hQ : ∀ (r : Int32) (I' : jI) (L' : jL), WD Z I' → FR Ws_X12_readLine Z I Z I' → ((I v0 26).toInt ≤ (I' v0 26).toInt ∧ (I' v0 26).toInt ≤ (I v0 24).toInt ∧ (I' v0 26).toInt ≤ (I v0 25).toInt ∧ (¬ (I v0 27).toInt = -1 → ¬ (I' v0 27).toInt = -1) ∧ v1.toInt ≤ r.toInt ∧ r.toInt ≤ 24 ∧ ((I' v0 27).toInt = -1 → v1.toInt < r.toInt)) → Q r I' L') : f_X12_readLine v0 v1 Z I L Q := by
  unfold f_X12_readLine
  have q_I : FR Ws_X12_readLine Z I Z I := FR.rf
  have rv1 := i_rng v1
  have t48 : (2 : Int32).toInt = 2 := rfl
  have t49 : (1 : Int32).toInt = 1 := rfl
  have t50 : (30 : Int32).toInt = 30 := rfl
  refine s_X12_number w_I v0 (2 : Int32) (1 : Int32) (30 : Int32) kv0 uR huR kuR (by omega) (by omega) (fun r51 I53 L54 w_I53 f_I53 p52 => ?_)
  have q_I53 : FR Ws_X12_readLine Z I Z I53 := q_I.trans w_I.1 w_I.2.1 (f_I53.mono (by decide))
  have u55 : (I53 v0 24).toInt = (I v0 24).toInt := by rw [f_I53.2.2.1 v0 12 24 kv0 (by decide) (by decide)]
  have u56 : (I53 v0 25).toInt = (I v0 25).toInt := by rw [f_I53.2.2.1 v0 12 25 kv0 (by decide) (by decide)]
  have rr51 := i_rng r51
  have t57 : (44 : Int32).toInt = 44 := rfl
  refine s_X12_need w_I53 v0 (44 : Int32) kv0 uR huR kuR (by omega) (by omega) (fun  I59 L60 w_I59 f_I59 p58 => ?_)
  have q_I59 : FR Ws_X12_readLine Z I Z I59 := q_I53.trans w_I.1 w_I.2.1 (f_I59.mono (by decide))
  have u61 : (I59 v0 24).toInt = (I53 v0 24).toInt := by rw [f_I59.2.2.1 v0 12 24 kv0 (by decide) (by decide)]
  have u62 : (I59 v0 25).toInt = (I53 v0 25).toInt := by rw [f_I59.2.2.1 v0 12 25 kv0 (by decide) (by decide)]
  have t63 : (2 : Int32).toInt = 2 := rfl
  have t64 : (0 : Int32).toInt = 0 := rfl
  have t65 : (9 : Int32).toInt = 9 := rfl
  refine s_X12_number w_I59 v0 (2 : Int32) (0 : Int32) (9 : Int32) kv0 uR huR kuR (by omega) (by omega) (fun r66 I68 L69 w_I68 f_I68 p67 => ?_)
  have q_I68 : FR Ws_X12_readLine Z I Z I68 := q_I59.trans w_I.1 w_I.2.1 (f_I68.mono (by decide))
  have u70 : (I68 v0 24).toInt = (I59 v0 24).toInt := by rw [f_I68.2.2.1 v0 12 24 kv0 (by decide) (by decide)]
  have u71 : (I68 v0 25).toInt = (I59 v0 25).toInt := by rw [f_I68.2.2.1 v0 12 25 kv0 (by decide) (by decide)]
  have rr66 := i_rng r66
  have t72 : (44 : Int32).toInt = 44 := rfl
  refine s_X12_need w_I68 v0 (44 : Int32) kv0 uR huR kuR (by omega) (by omega) (fun  I74 L75 w_I74 f_I74 p73 => ?_)
  have q_I74 : FR Ws_X12_readLine Z I Z I74 := q_I68.trans w_I.1 w_I.2.1 (f_I74.mono (by decide))
  have u76 : (I74 v0 24).toInt = (I68 v0 24).toInt := by rw [f_I74.2.2.1 v0 12 24 kv0 (by decide) (by decide)]
  have u77 : (I74 v0 25).toInt = (I68 v0 25).toInt := by rw [f_I74.2.2.1 v0 12 25 kv0 (by decide) (by decide)]
  have t78 : (2 : Int32).toInt = 2 := rfl
  have t79 : (0 : Int32).toInt = 0 := rfl
  have t80 : (20 : Int32).toInt = 20 := rfl
  refine s_X12_number w_I74 v0 (2 : Int32) (0 : Int32) (20 : Int32) kv0 uR huR kuR (by omega) (by omega) (fun r81 I83 L84 w_I83 f_I83 p82 => ?_)
  have q_I83 : FR Ws_X12_readLine Z I Z I83 := q_I74.trans w_I.1 w_I.2.1 (f_I83.mono (by decide))
  have u85 : (I83 v0 24).toInt = (I74 v0 24).toInt := by rw [f_I83.2.2.1 v0 12 24 kv0 (by decide) (by decide)]
  have u86 : (I83 v0 25).toInt = (I74 v0 25).toInt := by rw [f_I83.2.2.1 v0 12 25 kv0 (by decide) (by decide)]
  have rr81 := i_rng r81
  have t87 : (64 : Int32).toInt = 64 := rfl
  refine s_X12_need w_I83 v0 (64 : Int32) kv0 uR huR kuR (by omega) (by omega) (fun  I89 L90 w_I89 f_I89 p88 => ?_)
  have q_I89 : FR Ws_X12_readLine Z I Z I89 := q_I83.trans w_I.1 w_I.2.1 (f_I89.mono (by decide))
  have u91 : (I89 v0 24).toInt = (I83 v0 24).toInt := by rw [f_I89.2.2.1 v0 12 24 kv0 (by decide) (by decide)]
  have u92 : (I89 v0 25).toInt = (I83 v0 25).toInt := by rw [f_I89.2.2.1 v0 12 25 kv0 (by decide) (by decide)]
  have t93 : (1 : Int32).toInt = 1 := rfl
  have t94 : (0 : Int32).toInt = 0 := rfl
  have t95 : (7 : Int32).toInt = 7 := rfl
  refine s_X12_number w_I89 v0 (1 : Int32) (0 : Int32) (7 : Int32) kv0 uR huR kuR (by omega) (by omega) (fun r96 I98 L99 w_I98 f_I98 p97 => ?_)
  have q_I98 : FR Ws_X12_readLine Z I Z I98 := q_I89.trans w_I.1 w_I.2.1 (f_I98.mono (by decide))
  have u100 : (I98 v0 24).toInt = (I89 v0 24).toInt := by rw [f_I98.2.2.1 v0 12 24 kv0 (by decide) (by decide)]
  have u101 : (I98 v0 25).toInt = (I89 v0 25).toInt := by rw [f_I98.2.2.1 v0 12 25 kv0 (by decide) (by decide)]
  have rr96 := i_rng r96
  have t102 : (119 : Int32).toInt = 119 := rfl
  refine s_X12_passes w_I98 v0 (119 : Int32) kv0 uR huR kuR (by omega) (by omega) (fun r103 I105 L106 w_I105 f_I105 p104 => ?_)
  have q_I105 : FR Ws_X12_readLine Z I Z I105 := q_I98.trans w_I.1 w_I.2.1 (f_I105.mono (by decide))
  have u107 : (I105 v0 24).toInt = (I98 v0 24).toInt := by rw [f_I105.2.2.1 v0 12 24 kv0 (by decide) (by decide)]
  have u108 : (I105 v0 25).toInt = (I98 v0 25).toInt := by rw [f_I105.2.2.1 v0 12 25 kv0 (by decide) (by decide)]
  have u109 : (I105 v0 27).toInt = (I98 v0 27).toInt := by rw [f_I105.2.2.1 v0 12 27 kv0 (by decide) (by decide)]
  have rr103 := i_rng r103
  refine ⟨fun c110 => ?_, fun c110 => ?_⟩
  · skip
    first | (have t111 : r103.toInt = (0) := (i_eq rfl (show (0 : Int32).toInt = 0 from rfl)).mp c110) | (have t111 : r103.toInt = (0 : Int32).toInt := (i_eq rfl rfl).mp c110) | skip
    unfold f_X12_readLine_b70
    have t112 : (42 : Int32).toInt = 42 := rfl
    refine s_X12_passes w_I105 v0 (42 : Int32) kv0 uR huR kuR (by omega) (by omega) (fun r113 I115 L116 w_I115 f_I115 p114 => ?_)
    have q_I115 : FR Ws_X12_readLine Z I Z I115 := q_I105.trans w_I.1 w_I.2.1 (f_I115.mono (by decide))
    have u117 : (I115 v0 24).toInt = (I105 v0 24).toInt := by rw [f_I115.2.2.1 v0 12 24 kv0 (by decide) (by decide)]
    have u118 : (I115 v0 25).toInt = (I105 v0 25).toInt := by rw [f_I115.2.2.1 v0 12 25 kv0 (by decide) (by decide)]
    have u119 : (I115 v0 27).toInt = (I105 v0 27).toInt := by rw [f_I115.2.2.1 v0 12 27 kv0 (by decide) (by decide)]
    have rr113 := i_rng r113
    refine ⟨fun c120 => ?_, fun c120 => ?_⟩
    · skip
      first | (have t121 : r113.toInt = (0) := (i_eq rfl (show (0 : Int32).toInt = 0 from rfl)).mp c120) | (have t121 : r113.toInt = (0 : Int32).toInt := (i_eq rfl rfl).mp c120) | skip
      unfold f_X12_readLine_b95
      refine s_X12_fine w_I115 v0 kv0   (fun r122 p123 => ?_)
      have rr122 := i_rng r122
      refine ⟨fun c124 => ?_, fun c124 => ?_⟩
      · skip
        first | (have t125 : ¬ (r122.toInt = (0)) := (not_congr (i_eq rfl (show (0 : Int32).toInt = 0 from rfl))).mp c124) | (have t125 : ¬ (r122.toInt = (0 : Int32).toInt) := (not_congr (i_eq rfl rfl)).mp c124) | skip
        have t126 : (0 : Int32).toInt = 0 := rfl
        have t127 : (1 : Int32).toInt = 1 := rfl
        have t128 : (0 : Int32).toInt = 0 := rfl
        exact ⟨(24 - (0 : Int32).toInt).toNat + 1, l_X12_readLine_L109 w_I v0 v1 kv0 uR huR kuR p0 p1 r51 r66 r81 r96 (0 : Int32) (1 : Int32)  hQ   _ (0 : Int32) I115 L116 w_I115 q_I115   (by omega)  (by omega)⟩
      · skip
        first | (have t129 : r122.toInt = (0) := (i_eq rfl (show (0 : Int32).toInt = 0 from rfl)).mp c124) | (have t129 : r122.toInt = (0 : Int32).toInt := (i_eq rfl rfl).mp c124) | skip
        exact hQ v1 I115 L116 w_I115 q_I115 (by omega)
    · skip
      first | (have t130 : ¬ (r113.toInt = (0)) := (not_congr (i_eq rfl (show (0 : Int32).toInt = 0 from rfl))).mp c120) | (have t130 : ¬ (r113.toInt = (0 : Int32).toInt) := (not_congr (i_eq rfl rfl)).mp c120) | skip
      have t131 : (2 : Int32).toInt = 2 := rfl
      have t132 : (1 : Int32).toInt = 1 := rfl
      try (have t133 : ((24 : Int32) - v1).toInt = ((24) - v1.toInt) := (i_sub (show (24 : Int32).toInt = 24 from rfl) rfl (by omega) (by omega)))
      refine s_X12_number w_I115 v0 (2 : Int32) (1 : Int32) ((24 : Int32) - v1) kv0 uR huR kuR (by omega) (by omega) (fun r134 I136 L137 w_I136 f_I136 p135 => ?_)
      have q_I136 : FR Ws_X12_readLine Z I Z I136 := q_I115.trans w_I.1 w_I.2.1 (f_I136.mono (by decide))
      have u138 : (I136 v0 24).toInt = (I115 v0 24).toInt := by rw [f_I136.2.2.1 v0 12 24 kv0 (by decide) (by decide)]
      have u139 : (I136 v0 25).toInt = (I115 v0 25).toInt := by rw [f_I136.2.2.1 v0 12 25 kv0 (by decide) (by decide)]
      have rr134 := i_rng r134
      unfold f_X12_readLine_b95
      refine s_X12_fine w_I136 v0 kv0   (fun r140 p141 => ?_)
      have rr140 := i_rng r140
      refine ⟨fun c142 => ?_, fun c142 => ?_⟩
      · skip
        first | (have t143 : ¬ (r140.toInt = (0)) := (not_congr (i_eq rfl (show (0 : Int32).toInt = 0 from rfl))).mp c142) | (have t143 : ¬ (r140.toInt = (0 : Int32).toInt) := (not_congr (i_eq rfl rfl)).mp c142) | skip
        have t144 : (0 : Int32).toInt = 0 := rfl
        have t145 : (0 : Int32).toInt = 0 := rfl
        exact ⟨(24 - (0 : Int32).toInt).toNat + 1, l_X12_readLine_L109 w_I v0 v1 kv0 uR huR kuR p0 p1 r51 r66 r81 r96 (0 : Int32) r134  hQ   _ (0 : Int32) I136 L137 w_I136 q_I136   (by omega)  (by omega)⟩
      · skip
        first | (have t146 : r140.toInt = (0) := (i_eq rfl (show (0 : Int32).toInt = 0 from rfl)).mp c142) | (have t146 : r140.toInt = (0 : Int32).toInt := (i_eq rfl rfl).mp c142) | skip
        exact hQ v1 I136 L137 w_I136 q_I136 (by omega)
  · skip
    first | (have t147 : ¬ (r103.toInt = (0)) := (not_congr (i_eq rfl (show (0 : Int32).toInt = 0 from rfl))).mp c110) | (have t147 : ¬ (r103.toInt = (0 : Int32).toInt) := (not_congr (i_eq rfl rfl)).mp c110) | skip
    unfold f_X12_readLine_b70
    have t148 : (42 : Int32).toInt = 42 := rfl
    refine s_X12_passes w_I105 v0 (42 : Int32) kv0 uR huR kuR (by omega) (by omega) (fun r149 I151 L152 w_I151 f_I151 p150 => ?_)
    have q_I151 : FR Ws_X12_readLine Z I Z I151 := q_I105.trans w_I.1 w_I.2.1 (f_I151.mono (by decide))
    have u153 : (I151 v0 24).toInt = (I105 v0 24).toInt := by rw [f_I151.2.2.1 v0 12 24 kv0 (by decide) (by decide)]
    have u154 : (I151 v0 25).toInt = (I105 v0 25).toInt := by rw [f_I151.2.2.1 v0 12 25 kv0 (by decide) (by decide)]
    have u155 : (I151 v0 27).toInt = (I105 v0 27).toInt := by rw [f_I151.2.2.1 v0 12 27 kv0 (by decide) (by decide)]
    have rr149 := i_rng r149
    refine ⟨fun c156 => ?_, fun c156 => ?_⟩
    · skip
      first | (have t157 : r149.toInt = (0) := (i_eq rfl (show (0 : Int32).toInt = 0 from rfl)).mp c156) | (have t157 : r149.toInt = (0 : Int32).toInt := (i_eq rfl rfl).mp c156) | skip
      unfold f_X12_readLine_b95
      refine s_X12_fine w_I151 v0 kv0   (fun r158 p159 => ?_)
      have rr158 := i_rng r158
      refine ⟨fun c160 => ?_, fun c160 => ?_⟩
      · skip
        first | (have t161 : ¬ (r158.toInt = (0)) := (not_congr (i_eq rfl (show (0 : Int32).toInt = 0 from rfl))).mp c160) | (have t161 : ¬ (r158.toInt = (0 : Int32).toInt) := (not_congr (i_eq rfl rfl)).mp c160) | skip
        have t162 : (1 : Int32).toInt = 1 := rfl
        have t163 : (1 : Int32).toInt = 1 := rfl
        have t164 : (0 : Int32).toInt = 0 := rfl
        exact ⟨(24 - (0 : Int32).toInt).toNat + 1, l_X12_readLine_L109 w_I v0 v1 kv0 uR huR kuR p0 p1 r51 r66 r81 r96 (1 : Int32) (1 : Int32)  hQ   _ (0 : Int32) I151 L152 w_I151 q_I151   (by omega)  (by omega)⟩
      · skip
        first | (have t165 : r158.toInt = (0) := (i_eq rfl (show (0 : Int32).toInt = 0 from rfl)).mp c160) | (have t165 : r158.toInt = (0 : Int32).toInt := (i_eq rfl rfl).mp c160) | skip
        exact hQ v1 I151 L152 w_I151 q_I151 (by omega)
    · skip
      first | (have t166 : ¬ (r149.toInt = (0)) := (not_congr (i_eq rfl (show (0 : Int32).toInt = 0 from rfl))).mp c156) | (have t166 : ¬ (r149.toInt = (0 : Int32).toInt) := (not_congr (i_eq rfl rfl)).mp c156) | skip
      have t167 : (2 : Int32).toInt = 2 := rfl
      have t168 : (1 : Int32).toInt = 1 := rfl
      try (have t169 : ((24 : Int32) - v1).toInt = ((24) - v1.toInt) := (i_sub (show (24 : Int32).toInt = 24 from rfl) rfl (by omega) (by omega)))
      refine s_X12_number w_I151 v0 (2 : Int32) (1 : Int32) ((24 : Int32) - v1) kv0 uR huR kuR (by omega) (by omega) (fun r170 I172 L173 w_I172 f_I172 p171 => ?_)
      have q_I172 : FR Ws_X12_readLine Z I Z I172 := q_I151.trans w_I.1 w_I.2.1 (f_I172.mono (by decide))
      have u174 : (I172 v0 24).toInt = (I151 v0 24).toInt := by rw [f_I172.2.2.1 v0 12 24 kv0 (by decide) (by decide)]
      have u175 : (I172 v0 25).toInt = (I151 v0 25).toInt := by rw [f_I172.2.2.1 v0 12 25 kv0 (by decide) (by decide)]
      have rr170 := i_rng r170
      unfold f_X12_readLine_b95
      refine s_X12_fine w_I172 v0 kv0   (fun r176 p177 => ?_)
      have rr176 := i_rng r176
      refine ⟨fun c178 => ?_, fun c178 => ?_⟩
      · skip
        first | (have t179 : ¬ (r176.toInt = (0)) := (not_congr (i_eq rfl (show (0 : Int32).toInt = 0 from rfl))).mp c178) | (have t179 : ¬ (r176.toInt = (0 : Int32).toInt) := (not_congr (i_eq rfl rfl)).mp c178) | skip
        have t180 : (1 : Int32).toInt = 1 := rfl
        have t181 : (0 : Int32).toInt = 0 := rfl
        exact ⟨(24 - (0 : Int32).toInt).toNat + 1, l_X12_readLine_L109 w_I v0 v1 kv0 uR huR kuR p0 p1 r51 r66 r81 r96 (1 : Int32) r170  hQ   _ (0 : Int32) I172 L173 w_I172 q_I172   (by omega)  (by omega)⟩
      · skip
        first | (have t182 : r176.toInt = (0) := (i_eq rfl (show (0 : Int32).toInt = 0 from rfl)).mp c178) | (have t182 : r176.toInt = (0 : Int32).toInt := (i_eq rfl rfl).mp c178) | skip
        exact hQ v1 I172 L173 w_I172 q_I172 (by omega)
set_option maxHeartbeats 4000000 in
set_option maxRecDepth 100000 in
theorem s_X12_letter {Z : jZ} {I : jI} {L : jL} (w_I : WD Z I) (v0 : Nat) (v1 : Int32) (kv0 : jk Z v0 12) (p0 : 0 ≤ (I v0 31).toInt ∧ (I v0 31).toInt ≤ 23 ∧ (I v0 32).toInt ≤ 23) {Q : Int32 → jI → jL → Prop} (hQ : ∀ (r : Int32), Q r I L) : f_X12_letter v0 v1 Z I L Q := by
  unfold f_X12_letter
  have rv1 := i_rng v1
  refine ⟨fun c1 => ?_, fun c1 => ?_⟩
  · skip
    first | (have t2 : v1.toInt = (97) := (i_eq rfl (show (97 : Int32).toInt = 97 from rfl)).mp c1) | (have t2 : v1.toInt = (97 : Int32).toInt := (i_eq rfl rfl).mp c1) | skip
    intro b3 eb3
    obtain ⟨x4, ex4, kb3, lb3⟩ := sh_f w_I.1 kv0 (j := 3) (k := 14) (m := 24) rfl
    cases eb3.symm.trans ex4
    have o5 : vp_in (I v0 31) 24 := vi_of rfl (by omega) (by omega)
    refine ⟨o5, ?_⟩
    have t6 : 0 ≤ (I b3 (I v0 31).toNatClampNeg).toInt ∧ (I b3 (I v0 31).toNatClampNeg).toInt ≤ 20 := w_I.arr 12 3 kv0 eb3 kb3 rfl rfl _
    exact hQ (I b3 (I v0 31).toNatClampNeg) 
  · skip
    first | (have t7 : ¬ (v1.toInt = (97)) := (not_congr (i_eq rfl (show (97 : Int32).toInt = 97 from rfl))).mp c1) | (have t7 : ¬ (v1.toInt = (97 : Int32).toInt) := (not_congr (i_eq rfl rfl)).mp c1) | skip
    refine ⟨fun c8 => ?_, fun c8 => ?_⟩
    · skip
      first | (have t9 : v1.toInt = (108) := (i_eq rfl (show (108 : Int32).toInt = 108 from rfl)).mp c8) | (have t9 : v1.toInt = (108 : Int32).toInt := (i_eq rfl rfl).mp c8) | skip
      exact hQ (I v0 33) 
    · skip
      first | (have t10 : ¬ (v1.toInt = (108)) := (not_congr (i_eq rfl (show (108 : Int32).toInt = 108 from rfl))).mp c8) | (have t10 : ¬ (v1.toInt = (108 : Int32).toInt) := (not_congr (i_eq rfl rfl)).mp c8) | skip
      refine ⟨fun c11 => ?_, fun c11 => ?_⟩
      · skip
        first | (have t12 : v1.toInt = (114) := (i_eq rfl (show (114 : Int32).toInt = 114 from rfl)).mp c11) | (have t12 : v1.toInt = (114 : Int32).toInt := (i_eq rfl rfl).mp c11) | skip
        intro b13 eb13
        obtain ⟨x14, ex14, kb13, lb13⟩ := sh_f w_I.1 kv0 (j := 1) (k := 14) (m := 24) rfl
        cases eb13.symm.trans ex14
        have o15 : vp_in (I v0 31) 24 := vi_of rfl (by omega) (by omega)
        refine ⟨o15, ?_⟩
        have t16 : 0 ≤ (I b13 (I v0 31).toNatClampNeg).toInt ∧ (I b13 (I v0 31).toNatClampNeg).toInt ≤ 30 := w_I.arr 12 1 kv0 eb13 kb13 rfl rfl _
        exact hQ (I b13 (I v0 31).toNatClampNeg) 
      · skip
        first | (have t17 : ¬ (v1.toInt = (114)) := (not_congr (i_eq rfl (show (114 : Int32).toInt = 114 from rfl))).mp c11) | (have t17 : ¬ (v1.toInt = (114 : Int32).toInt) := (not_congr (i_eq rfl rfl)).mp c11) | skip
        refine ⟨fun c18 => ?_, fun c18 => ?_⟩
        · skip
          first | (have t19 : v1.toInt = (115) := (i_eq rfl (show (115 : Int32).toInt = 115 from rfl)).mp c18) | (have t19 : v1.toInt = (115 : Int32).toInt := (i_eq rfl rfl).mp c18) | skip
          intro b20 eb20
          obtain ⟨x21, ex21, kb20, lb20⟩ := sh_f w_I.1 kv0 (j := 2) (k := 14) (m := 24) rfl
          cases eb20.symm.trans ex21
          have o22 : vp_in (I v0 31) 24 := vi_of rfl (by omega) (by omega)
          refine ⟨o22, ?_⟩
          have t23 : 0 ≤ (I b20 (I v0 31).toNatClampNeg).toInt ∧ (I b20 (I v0 31).toNatClampNeg).toInt ≤ 9 := w_I.arr 12 2 kv0 eb20 kb20 rfl rfl _
          exact hQ (I b20 (I v0 31).toNatClampNeg) 
        · skip
          first | (have t24 : ¬ (v1.toInt = (115)) := (not_congr (i_eq rfl (show (115 : Int32).toInt = 115 from rfl))).mp c18) | (have t24 : ¬ (v1.toInt = (115 : Int32).toInt) := (not_congr (i_eq rfl rfl)).mp c18) | skip
          refine ⟨fun c25 => ?_, fun c25 => ?_⟩
          · skip
            first | (have t26 : v1.toInt = (119) := (i_eq rfl (show (119 : Int32).toInt = 119 from rfl)).mp c25) | (have t26 : v1.toInt = (119 : Int32).toInt := (i_eq rfl rfl).mp c25) | skip
            intro b27 eb27
            obtain ⟨x28, ex28, kb27, lb27⟩ := sh_f w_I.1 kv0 (j := 4) (k := 16) (m := 24) rfl
            cases eb27.symm.trans ex28
            have o29 : vp_in (I v0 31) 24 := vi_of rfl (by omega) (by omega)
            refine ⟨o29, ?_⟩
            refine ⟨fun c30 => ?_, fun c30 => ?_⟩
            · skip
              first | (have t31 : (I b27 (I v0 31).toNatClampNeg).toInt = (0) := (i_eq rfl (show (0 : Int32).toInt = 0 from rfl)).mp c30) | (have t31 : (I b27 (I v0 31).toNatClampNeg).toInt = (0 : Int32).toInt := (i_eq rfl rfl).mp c30) | skip
              have t32 : (0 : Int32).toInt = 0 := rfl
              exact hQ (0 : Int32) 
            · skip
              first | (have t33 : ¬ ((I b27 (I v0 31).toNatClampNeg).toInt = (0)) := (not_congr (i_eq rfl (show (0 : Int32).toInt = 0 from rfl))).mp c30) | (have t33 : ¬ ((I b27 (I v0 31).toNatClampNeg).toInt = (0 : Int32).toInt) := (not_congr (i_eq rfl rfl)).mp c30) | skip
              have t34 : (1 : Int32).toInt = 1 := rfl
              exact hQ (1 : Int32) 
          · skip
            first | (have t35 : ¬ (v1.toInt = (119)) := (not_congr (i_eq rfl (show (119 : Int32).toInt = 119 from rfl))).mp c25) | (have t35 : ¬ (v1.toInt = (119 : Int32).toInt) := (not_congr (i_eq rfl rfl)).mp c25) | skip
            refine ⟨fun c36 => ?_, fun c36 => ?_⟩
            · skip
              first | (have t37 : v1.toInt = (120) := (i_eq rfl (show (120 : Int32).toInt = 120 from rfl)).mp c36) | (have t37 : v1.toInt = (120 : Int32).toInt := (i_eq rfl rfl).mp c36) | skip
              refine ⟨fun c38 => ?_, fun c38 => ?_⟩
              · skip
                first | (have t39 : (I v0 32).toInt < (0) := (i_lt rfl (show (0 : Int32).toInt = 0 from rfl)).mp c38) | (have t39 : (I v0 32).toInt < (0 : Int32).toInt := (i_lt rfl rfl).mp c38) | skip
                have t40 : (0 : Int32).toInt = 0 := rfl
                exact hQ (0 : Int32) 
              · skip
                first | (have t41 : ¬ ((I v0 32).toInt < (0)) := (not_congr (i_lt rfl (show (0 : Int32).toInt = 0 from rfl))).mp c38) | (have t41 : ¬ ((I v0 32).toInt < (0 : Int32).toInt) := (not_congr (i_lt rfl rfl)).mp c38) | skip
                intro b42 eb42
                obtain ⟨x43, ex43, kb42, lb42⟩ := sh_f w_I.1 kv0 (j := 6) (k := 16) (m := 64) rfl
                cases eb42.symm.trans ex43
                refine s_X12_mainOf w_I v0 (I v0 32) kv0  (by omega) (fun r44 p45 => ?_)
                have rr44 := i_rng r44
                refine s_X12_mainOf w_I v0 (I v0 31) kv0  (by omega) (fun r46 p47 => ?_)
                have rr46 := i_rng r46
                have o48 : vp_in (((8 : Int32) * r44) + r46) 64 := vi_of (i_add (i_mul (show (8 : Int32).toInt = 8 from rfl) rfl (by omega) (by omega)) rfl (by omega) (by omega)) (by omega) (by omega)
                refine ⟨o48, ?_⟩
                refine ⟨fun c49 => ?_, fun c49 => ?_⟩
                · skip
                  first | (have t50 : (I b42 (((8 : Int32) * r44) + r46).toNatClampNeg).toInt = (0) := (i_eq rfl (show (0 : Int32).toInt = 0 from rfl)).mp c49) | (have t50 : (I b42 (((8 : Int32) * r44) + r46).toNatClampNeg).toInt = (0 : Int32).toInt := (i_eq rfl rfl).mp c49) | skip
                  have t51 : (0 : Int32).toInt = 0 := rfl
                  exact hQ (0 : Int32) 
                · skip
                  first | (have t52 : ¬ ((I b42 (((8 : Int32) * r44) + r46).toNatClampNeg).toInt = (0)) := (not_congr (i_eq rfl (show (0 : Int32).toInt = 0 from rfl))).mp c49) | (have t52 : ¬ ((I b42 (((8 : Int32) * r44) + r46).toNatClampNeg).toInt = (0 : Int32).toInt) := (not_congr (i_eq rfl rfl)).mp c49) | skip
                  have t53 : (1 : Int32).toInt = 1 := rfl
                  exact hQ (1 : Int32) 
            · skip
              first | (have t54 : ¬ (v1.toInt = (120)) := (not_congr (i_eq rfl (show (120 : Int32).toInt = 120 from rfl))).mp c36) | (have t54 : ¬ (v1.toInt = (120 : Int32).toInt) := (not_congr (i_eq rfl rfl)).mp c36) | skip
              exact hQ (I v0 34) 
end
section
/-! ===== the model's reading of a law: how deep ===== -/
def Ws_R12 : List (Nat × Nat) := [(12, 26), (12, 27)]
def HS12 (d : Nat) (F : FTR12) : Prop := ∀ (w : Nat), w ≤ 3 → ∀ (Z : jZ) (I : jI) (L : jL), WD Z I → ∀ (v0 : Nat) (v1 : Int32), jk Z v0 12 → ∀ uR, jr Z v0 23 = some uR → jk Z uR 13
  → (0 ≤ (I v0 26).toInt ∧ (I v0 26).toInt ≤ (I v0 24).toInt ∧ (I v0 26).toInt ≤ (I v0 25).toInt ∧ (I v0 24).toInt ≤ (jlen Z uR : Int) ∧ jlen Z uR ≤ 80)
  → ((I v0 31).toInt = -1 ∨ (0 ≤ (I v0 31).toInt ∧ (I v0 31).toInt ≤ 23 ∧ (I v0 32).toInt ≤ 23)) → (0 ≤ v1.toInt ∧ v1.toInt ≤ 4)
  → (I v0 25).toInt - (I v0 26).toInt + 4 * (4 - v1.toInt) + 4 - (w : Int) ≤ (d : Int)
  → ∀ Q : Int32 → jI → jL → Prop, (∀ (r : Int32) (I' : jI) (L' : jL), WD Z I' → FR Ws_R12 Z I Z I' → ((I v0 26).toInt ≤ (I' v0 26).toInt ∧ (I' v0 26).toInt ≤ (I v0 24).toInt ∧ (I' v0 26).toInt ≤ (I v0 25).toInt ∧ (¬ (I v0 27).toInt = -1 → ¬ (I' v0 27).toInt = -1)) → Q r I' L') → F w v0 v1 Z I L Q
end
section
set_option maxHeartbeats 4000000 in
set_option maxRecDepth 100000 in
theorem s_X12_thing {d : Nat} {F : FTR12} (hF : HS12 d F) {Z : jZ} {I : jI} {L : jL} (w_I : WD Z I) (v0 : Nat) (v1 : Int32) (kv0 : jk Z v0 12) (uR : Nat) (huR : jr Z v0 23 = some uR) (kuR : jk Z uR 13) (p0 : 0 ≤ (I v0 26).toInt ∧ (I v0 26).toInt ≤ (I v0 24).toInt ∧ (I v0 26).toInt ≤ (I v0 25).toInt ∧ (I v0 24).toInt ≤ (jlen Z uR : Int) ∧ jlen Z uR ≤ 80) (p1 : ((I v0 31).toInt = -1 ∨ (0 ≤ (I v0 31).toInt ∧ (I v0 31).toInt ≤ 23 ∧ (I v0 32).toInt ≤ 23))) (p2 : 0 ≤ v1.toInt ∧ v1.toInt ≤ 4) (p3 : (I v0 25).toInt - (I v0 26).toInt + 4 * (4 - v1.toInt) + 4 - 3 ≤ (d : Int) + 1) {Q : Int32 → jI → jL → Prop} (hQ : ∀ (r : Int32) (I' : jI) (L' : jL), WD Z I' → FR Ws_R12 Z I Z I' → ((I v0 26).toInt ≤ (I' v0 26).toInt ∧ (I' v0 26).toInt ≤ (I v0 24).toInt ∧ (I' v0 26).toInt ≤ (I v0 25).toInt ∧ (¬ (I v0 27).toInt = -1 → ¬ (I' v0 27).toInt = -1)) → Q r I' L') : f_X12_thing F v0 v1 Z I L Q := by
  unfold f_X12_thing
  have q_I : FR Ws_R12 Z I Z I := FR.rf
  have rv1 := i_rng v1
  have t1 : (45 : Int32).toInt = 45 := rfl
  refine s_X12_passes w_I v0 (45 : Int32) kv0 uR huR kuR (by omega) (by omega) (fun r2 I4 L5 w_I4 f_I4 p3 => ?_)
  have q_I4 : FR Ws_R12 Z I Z I4 := q_I.trans w_I.1 w_I.2.1 (f_I4.mono (by decide))
  have u6 : (I4 v0 31).toInt = (I v0 31).toInt := by rw [f_I4.2.2.1 v0 12 31 kv0 (by decide) (by decide)]
  have u7 : (I4 v0 32).toInt = (I v0 32).toInt := by rw [f_I4.2.2.1 v0 12 32 kv0 (by decide) (by decide)]
  have u8 : (I4 v0 24).toInt = (I v0 24).toInt := by rw [f_I4.2.2.1 v0 12 24 kv0 (by decide) (by decide)]
  have u9 : (I4 v0 25).toInt = (I v0 25).toInt := by rw [f_I4.2.2.1 v0 12 25 kv0 (by decide) (by decide)]
  have u10 : (I4 v0 27).toInt = (I v0 27).toInt := by rw [f_I4.2.2.1 v0 12 27 kv0 (by decide) (by decide)]
  have rr2 := i_rng r2
  refine ⟨fun c11 => ?_, fun c11 => ?_⟩
  · skip
    first | (have t12 : r2.toInt = (0) := (i_eq rfl (show (0 : Int32).toInt = 0 from rfl)).mp c11) | (have t12 : r2.toInt = (0 : Int32).toInt := (i_eq rfl rfl).mp c11) | skip
    refine s_X12_fine w_I4 v0 kv0   (fun r13 p14 => ?_)
    have rr13 := i_rng r13
    refine ⟨fun c15 => ?_, fun c15 => ?_⟩
    · skip
      first | (have t16 : ¬ (r13.toInt = (0)) := (not_congr (i_eq rfl (show (0 : Int32).toInt = 0 from rfl))).mp c15) | (have t16 : ¬ (r13.toInt = (0 : Int32).toInt) := (not_congr (i_eq rfl rfl)).mp c15) | skip
      refine s_X12_here w_I4 v0 kv0 uR huR kuR (by omega) (fun r17 p18 => ?_)
      have rr17 := i_rng r17
      refine ⟨fun c19 => ?_, fun c19 => ?_⟩
      · skip
        first | (have t20 : ¬ (r17.toInt = (40)) := (not_congr (i_eq rfl (show (40 : Int32).toInt = 40 from rfl))).mp c19) | (have t20 : ¬ (r17.toInt = (40 : Int32).toInt) := (not_congr (i_eq rfl rfl)).mp c19) | skip
        unfold f_X12_thing_b67
        have t21 : (48 : Int32).toInt = 48 := rfl
        have t22 : (57 : Int32).toInt = 57 := rfl
        refine s_X12_in w_I4 r17 (48 : Int32) (57 : Int32)    (fun r23 p24 => ?_)
        have rr23 := i_rng r23
        refine ⟨fun c25 => ?_, fun c25 => ?_⟩
        · skip
          first | (have t26 : r23.toInt = (0) := (i_eq rfl (show (0 : Int32).toInt = 0 from rfl)).mp c25) | (have t26 : r23.toInt = (0 : Int32).toInt := (i_eq rfl rfl).mp c25) | skip
          refine ⟨fun c27 => ?_, fun c27 => ?_⟩
          · skip
            first | (have t28 : r17.toInt = (97) := (i_eq rfl (show (97 : Int32).toInt = 97 from rfl)).mp c27) | (have t28 : r17.toInt = (97 : Int32).toInt := (i_eq rfl rfl).mp c27) | skip
            unfold f_X12_thing_b140
            intro I29 eI29
            try (have t30 : ((I4 v0 26) + (1 : Int32)).toInt = ((I4 v0 26).toInt + (1)) := (i_add rfl (show (1 : Int32).toInt = 1 from rfl) (by omega) (by omega)))
            have w_I29 : WD Z I29 := by rw [eI29]; exact WD_putF w_I4 12 26 kv0 (by decide) (by decide) trivial
            have f_I29 : FR [(12, 26)] Z I4 Z I29 := by rw [eI29]; exact FR_putF kv0 (by decide) List.mem_cons_self
            have q_I29 : FR Ws_R12 Z I Z I29 := q_I4.trans w_I.1 w_I.2.1 (f_I29.mono (by decide))
            have u31 : (I29 v0 31).toInt = (I4 v0 31).toInt := by rw [f_I29.2.2.1 v0 12 31 kv0 (by decide) (by decide)]
            have u32 : (I29 v0 32).toInt = (I4 v0 32).toInt := by rw [f_I29.2.2.1 v0 12 32 kv0 (by decide) (by decide)]
            have u33 : (I29 v0 24).toInt = (I4 v0 24).toInt := by rw [f_I29.2.2.1 v0 12 24 kv0 (by decide) (by decide)]
            have u34 : (I29 v0 25).toInt = (I4 v0 25).toInt := by rw [f_I29.2.2.1 v0 12 25 kv0 (by decide) (by decide)]
            have u35 : (I29 v0 27).toInt = (I4 v0 27).toInt := by rw [f_I29.2.2.1 v0 12 27 kv0 (by decide) (by decide)]
            first | (have u36 : (I29 v0 26).toInt = ((I4 v0 26).toInt + (1)) := by (rw [eI29, show jpI I4 v0 26 ((I4 v0 26) + (1 : Int32)) v0 26 = ((I4 v0 26) + (1 : Int32)) from jpI_at] <;> exact (i_add rfl (show (1 : Int32).toInt = 1 from rfl) (by omega) (by omega)))) | skip
            refine ⟨fun c37 => ?_, fun c37 => ?_⟩
            · skip
              first | (have t38 : ¬ ((I29 v0 31).toInt = (-1)) := (not_congr (i_eq rfl (show (-1 : Int32).toInt = -1 from rfl))).mp c37) | (have t38 : ¬ ((I29 v0 31).toInt = (-1 : Int32).toInt) := (not_congr (i_eq rfl rfl)).mp c37) | skip
              refine s_X12_letter w_I29 v0 ((r17.toUInt32 % 65536).toInt32) kv0  (by omega) (fun r39  => ?_)
              have rr39 := i_rng r39
              exact hQ r39 I29 L5 w_I29 q_I29 (by omega)
            · skip
              first | (have t40 : (I29 v0 31).toInt = (-1) := (i_eq rfl (show (-1 : Int32).toInt = -1 from rfl)).mp c37) | (have t40 : (I29 v0 31).toInt = (-1 : Int32).toInt := (i_eq rfl rfl).mp c37) | skip
              have t41 : (0 : Int32).toInt = 0 := rfl
              exact hQ (0 : Int32) I29 L5 w_I29 q_I29 (by omega)
          · skip
            first | (have t42 : ¬ (r17.toInt = (97)) := (not_congr (i_eq rfl (show (97 : Int32).toInt = 97 from rfl))).mp c27) | (have t42 : ¬ (r17.toInt = (97 : Int32).toInt) := (not_congr (i_eq rfl rfl)).mp c27) | skip
            refine ⟨fun c43 => ?_, fun c43 => ?_⟩
            · skip
              first | (have t44 : r17.toInt = (114) := (i_eq rfl (show (114 : Int32).toInt = 114 from rfl)).mp c43) | (have t44 : r17.toInt = (114 : Int32).toInt := (i_eq rfl rfl).mp c43) | skip
              unfold f_X12_thing_b140
              intro I45 eI45
              try (have t46 : ((I4 v0 26) + (1 : Int32)).toInt = ((I4 v0 26).toInt + (1)) := (i_add rfl (show (1 : Int32).toInt = 1 from rfl) (by omega) (by omega)))
              have w_I45 : WD Z I45 := by rw [eI45]; exact WD_putF w_I4 12 26 kv0 (by decide) (by decide) trivial
              have f_I45 : FR [(12, 26)] Z I4 Z I45 := by rw [eI45]; exact FR_putF kv0 (by decide) List.mem_cons_self
              have q_I45 : FR Ws_R12 Z I Z I45 := q_I4.trans w_I.1 w_I.2.1 (f_I45.mono (by decide))
              have u47 : (I45 v0 31).toInt = (I4 v0 31).toInt := by rw [f_I45.2.2.1 v0 12 31 kv0 (by decide) (by decide)]
              have u48 : (I45 v0 32).toInt = (I4 v0 32).toInt := by rw [f_I45.2.2.1 v0 12 32 kv0 (by decide) (by decide)]
              have u49 : (I45 v0 24).toInt = (I4 v0 24).toInt := by rw [f_I45.2.2.1 v0 12 24 kv0 (by decide) (by decide)]
              have u50 : (I45 v0 25).toInt = (I4 v0 25).toInt := by rw [f_I45.2.2.1 v0 12 25 kv0 (by decide) (by decide)]
              have u51 : (I45 v0 27).toInt = (I4 v0 27).toInt := by rw [f_I45.2.2.1 v0 12 27 kv0 (by decide) (by decide)]
              first | (have u52 : (I45 v0 26).toInt = ((I4 v0 26).toInt + (1)) := by (rw [eI45, show jpI I4 v0 26 ((I4 v0 26) + (1 : Int32)) v0 26 = ((I4 v0 26) + (1 : Int32)) from jpI_at] <;> exact (i_add rfl (show (1 : Int32).toInt = 1 from rfl) (by omega) (by omega)))) | skip
              refine ⟨fun c53 => ?_, fun c53 => ?_⟩
              · skip
                first | (have t54 : ¬ ((I45 v0 31).toInt = (-1)) := (not_congr (i_eq rfl (show (-1 : Int32).toInt = -1 from rfl))).mp c53) | (have t54 : ¬ ((I45 v0 31).toInt = (-1 : Int32).toInt) := (not_congr (i_eq rfl rfl)).mp c53) | skip
                refine s_X12_letter w_I45 v0 ((r17.toUInt32 % 65536).toInt32) kv0  (by omega) (fun r55  => ?_)
                have rr55 := i_rng r55
                exact hQ r55 I45 L5 w_I45 q_I45 (by omega)
              · skip
                first | (have t56 : (I45 v0 31).toInt = (-1) := (i_eq rfl (show (-1 : Int32).toInt = -1 from rfl)).mp c53) | (have t56 : (I45 v0 31).toInt = (-1 : Int32).toInt := (i_eq rfl rfl).mp c53) | skip
                have t57 : (0 : Int32).toInt = 0 := rfl
                exact hQ (0 : Int32) I45 L5 w_I45 q_I45 (by omega)
            · skip
              first | (have t58 : ¬ (r17.toInt = (114)) := (not_congr (i_eq rfl (show (114 : Int32).toInt = 114 from rfl))).mp c43) | (have t58 : ¬ (r17.toInt = (114 : Int32).toInt) := (not_congr (i_eq rfl rfl)).mp c43) | skip
              refine ⟨fun c59 => ?_, fun c59 => ?_⟩
              · skip
                first | (have t60 : r17.toInt = (115) := (i_eq rfl (show (115 : Int32).toInt = 115 from rfl)).mp c59) | (have t60 : r17.toInt = (115 : Int32).toInt := (i_eq rfl rfl).mp c59) | skip
                unfold f_X12_thing_b140
                intro I61 eI61
                try (have t62 : ((I4 v0 26) + (1 : Int32)).toInt = ((I4 v0 26).toInt + (1)) := (i_add rfl (show (1 : Int32).toInt = 1 from rfl) (by omega) (by omega)))
                have w_I61 : WD Z I61 := by rw [eI61]; exact WD_putF w_I4 12 26 kv0 (by decide) (by decide) trivial
                have f_I61 : FR [(12, 26)] Z I4 Z I61 := by rw [eI61]; exact FR_putF kv0 (by decide) List.mem_cons_self
                have q_I61 : FR Ws_R12 Z I Z I61 := q_I4.trans w_I.1 w_I.2.1 (f_I61.mono (by decide))
                have u63 : (I61 v0 31).toInt = (I4 v0 31).toInt := by rw [f_I61.2.2.1 v0 12 31 kv0 (by decide) (by decide)]
                have u64 : (I61 v0 32).toInt = (I4 v0 32).toInt := by rw [f_I61.2.2.1 v0 12 32 kv0 (by decide) (by decide)]
                have u65 : (I61 v0 24).toInt = (I4 v0 24).toInt := by rw [f_I61.2.2.1 v0 12 24 kv0 (by decide) (by decide)]
                have u66 : (I61 v0 25).toInt = (I4 v0 25).toInt := by rw [f_I61.2.2.1 v0 12 25 kv0 (by decide) (by decide)]
                have u67 : (I61 v0 27).toInt = (I4 v0 27).toInt := by rw [f_I61.2.2.1 v0 12 27 kv0 (by decide) (by decide)]
                first | (have u68 : (I61 v0 26).toInt = ((I4 v0 26).toInt + (1)) := by (rw [eI61, show jpI I4 v0 26 ((I4 v0 26) + (1 : Int32)) v0 26 = ((I4 v0 26) + (1 : Int32)) from jpI_at] <;> exact (i_add rfl (show (1 : Int32).toInt = 1 from rfl) (by omega) (by omega)))) | skip
                refine ⟨fun c69 => ?_, fun c69 => ?_⟩
                · skip
                  first | (have t70 : ¬ ((I61 v0 31).toInt = (-1)) := (not_congr (i_eq rfl (show (-1 : Int32).toInt = -1 from rfl))).mp c69) | (have t70 : ¬ ((I61 v0 31).toInt = (-1 : Int32).toInt) := (not_congr (i_eq rfl rfl)).mp c69) | skip
                  refine s_X12_letter w_I61 v0 ((r17.toUInt32 % 65536).toInt32) kv0  (by omega) (fun r71  => ?_)
                  have rr71 := i_rng r71
                  exact hQ r71 I61 L5 w_I61 q_I61 (by omega)
                · skip
                  first | (have t72 : (I61 v0 31).toInt = (-1) := (i_eq rfl (show (-1 : Int32).toInt = -1 from rfl)).mp c69) | (have t72 : (I61 v0 31).toInt = (-1 : Int32).toInt := (i_eq rfl rfl).mp c69) | skip
                  have t73 : (0 : Int32).toInt = 0 := rfl
                  exact hQ (0 : Int32) I61 L5 w_I61 q_I61 (by omega)
              · skip
                first | (have t74 : ¬ (r17.toInt = (115)) := (not_congr (i_eq rfl (show (115 : Int32).toInt = 115 from rfl))).mp c59) | (have t74 : ¬ (r17.toInt = (115 : Int32).toInt) := (not_congr (i_eq rfl rfl)).mp c59) | skip
                refine ⟨fun c75 => ?_, fun c75 => ?_⟩
                · skip
                  first | (have t76 : r17.toInt = (119) := (i_eq rfl (show (119 : Int32).toInt = 119 from rfl)).mp c75) | (have t76 : r17.toInt = (119 : Int32).toInt := (i_eq rfl rfl).mp c75) | skip
                  unfold f_X12_thing_b140
                  intro I77 eI77
                  try (have t78 : ((I4 v0 26) + (1 : Int32)).toInt = ((I4 v0 26).toInt + (1)) := (i_add rfl (show (1 : Int32).toInt = 1 from rfl) (by omega) (by omega)))
                  have w_I77 : WD Z I77 := by rw [eI77]; exact WD_putF w_I4 12 26 kv0 (by decide) (by decide) trivial
                  have f_I77 : FR [(12, 26)] Z I4 Z I77 := by rw [eI77]; exact FR_putF kv0 (by decide) List.mem_cons_self
                  have q_I77 : FR Ws_R12 Z I Z I77 := q_I4.trans w_I.1 w_I.2.1 (f_I77.mono (by decide))
                  have u79 : (I77 v0 31).toInt = (I4 v0 31).toInt := by rw [f_I77.2.2.1 v0 12 31 kv0 (by decide) (by decide)]
                  have u80 : (I77 v0 32).toInt = (I4 v0 32).toInt := by rw [f_I77.2.2.1 v0 12 32 kv0 (by decide) (by decide)]
                  have u81 : (I77 v0 24).toInt = (I4 v0 24).toInt := by rw [f_I77.2.2.1 v0 12 24 kv0 (by decide) (by decide)]
                  have u82 : (I77 v0 25).toInt = (I4 v0 25).toInt := by rw [f_I77.2.2.1 v0 12 25 kv0 (by decide) (by decide)]
                  have u83 : (I77 v0 27).toInt = (I4 v0 27).toInt := by rw [f_I77.2.2.1 v0 12 27 kv0 (by decide) (by decide)]
                  first | (have u84 : (I77 v0 26).toInt = ((I4 v0 26).toInt + (1)) := by (rw [eI77, show jpI I4 v0 26 ((I4 v0 26) + (1 : Int32)) v0 26 = ((I4 v0 26) + (1 : Int32)) from jpI_at] <;> exact (i_add rfl (show (1 : Int32).toInt = 1 from rfl) (by omega) (by omega)))) | skip
                  refine ⟨fun c85 => ?_, fun c85 => ?_⟩
                  · skip
                    first | (have t86 : ¬ ((I77 v0 31).toInt = (-1)) := (not_congr (i_eq rfl (show (-1 : Int32).toInt = -1 from rfl))).mp c85) | (have t86 : ¬ ((I77 v0 31).toInt = (-1 : Int32).toInt) := (not_congr (i_eq rfl rfl)).mp c85) | skip
                    refine s_X12_letter w_I77 v0 ((r17.toUInt32 % 65536).toInt32) kv0  (by omega) (fun r87  => ?_)
                    have rr87 := i_rng r87
                    exact hQ r87 I77 L5 w_I77 q_I77 (by omega)
                  · skip
                    first | (have t88 : (I77 v0 31).toInt = (-1) := (i_eq rfl (show (-1 : Int32).toInt = -1 from rfl)).mp c85) | (have t88 : (I77 v0 31).toInt = (-1 : Int32).toInt := (i_eq rfl rfl).mp c85) | skip
                    have t89 : (0 : Int32).toInt = 0 := rfl
                    exact hQ (0 : Int32) I77 L5 w_I77 q_I77 (by omega)
                · skip
                  first | (have t90 : ¬ (r17.toInt = (119)) := (not_congr (i_eq rfl (show (119 : Int32).toInt = 119 from rfl))).mp c75) | (have t90 : ¬ (r17.toInt = (119 : Int32).toInt) := (not_congr (i_eq rfl rfl)).mp c75) | skip
                  refine ⟨fun c91 => ?_, fun c91 => ?_⟩
                  · skip
                    first | (have t92 : r17.toInt = (120) := (i_eq rfl (show (120 : Int32).toInt = 120 from rfl)).mp c91) | (have t92 : r17.toInt = (120 : Int32).toInt := (i_eq rfl rfl).mp c91) | skip
                    unfold f_X12_thing_b140
                    intro I93 eI93
                    try (have t94 : ((I4 v0 26) + (1 : Int32)).toInt = ((I4 v0 26).toInt + (1)) := (i_add rfl (show (1 : Int32).toInt = 1 from rfl) (by omega) (by omega)))
                    have w_I93 : WD Z I93 := by rw [eI93]; exact WD_putF w_I4 12 26 kv0 (by decide) (by decide) trivial
                    have f_I93 : FR [(12, 26)] Z I4 Z I93 := by rw [eI93]; exact FR_putF kv0 (by decide) List.mem_cons_self
                    have q_I93 : FR Ws_R12 Z I Z I93 := q_I4.trans w_I.1 w_I.2.1 (f_I93.mono (by decide))
                    have u95 : (I93 v0 31).toInt = (I4 v0 31).toInt := by rw [f_I93.2.2.1 v0 12 31 kv0 (by decide) (by decide)]
                    have u96 : (I93 v0 32).toInt = (I4 v0 32).toInt := by rw [f_I93.2.2.1 v0 12 32 kv0 (by decide) (by decide)]
                    have u97 : (I93 v0 24).toInt = (I4 v0 24).toInt := by rw [f_I93.2.2.1 v0 12 24 kv0 (by decide) (by decide)]
                    have u98 : (I93 v0 25).toInt = (I4 v0 25).toInt := by rw [f_I93.2.2.1 v0 12 25 kv0 (by decide) (by decide)]
                    have u99 : (I93 v0 27).toInt = (I4 v0 27).toInt := by rw [f_I93.2.2.1 v0 12 27 kv0 (by decide) (by decide)]
                    first | (have u100 : (I93 v0 26).toInt = ((I4 v0 26).toInt + (1)) := by (rw [eI93, show jpI I4 v0 26 ((I4 v0 26) + (1 : Int32)) v0 26 = ((I4 v0 26) + (1 : Int32)) from jpI_at] <;> exact (i_add rfl (show (1 : Int32).toInt = 1 from rfl) (by omega) (by omega)))) | skip
                    refine ⟨fun c101 => ?_, fun c101 => ?_⟩
                    · skip
                      first | (have t102 : ¬ ((I93 v0 31).toInt = (-1)) := (not_congr (i_eq rfl (show (-1 : Int32).toInt = -1 from rfl))).mp c101) | (have t102 : ¬ ((I93 v0 31).toInt = (-1 : Int32).toInt) := (not_congr (i_eq rfl rfl)).mp c101) | skip
                      refine s_X12_letter w_I93 v0 ((r17.toUInt32 % 65536).toInt32) kv0  (by omega) (fun r103  => ?_)
                      have rr103 := i_rng r103
                      exact hQ r103 I93 L5 w_I93 q_I93 (by omega)
                    · skip
                      first | (have t104 : (I93 v0 31).toInt = (-1) := (i_eq rfl (show (-1 : Int32).toInt = -1 from rfl)).mp c101) | (have t104 : (I93 v0 31).toInt = (-1 : Int32).toInt := (i_eq rfl rfl).mp c101) | skip
                      have t105 : (0 : Int32).toInt = 0 := rfl
                      exact hQ (0 : Int32) I93 L5 w_I93 q_I93 (by omega)
                  · skip
                    first | (have t106 : ¬ (r17.toInt = (120)) := (not_congr (i_eq rfl (show (120 : Int32).toInt = 120 from rfl))).mp c91) | (have t106 : ¬ (r17.toInt = (120 : Int32).toInt) := (not_congr (i_eq rfl rfl)).mp c91) | skip
                    refine ⟨fun c107 => ?_, fun c107 => ?_⟩
                    · skip
                      first | (have t108 : r17.toInt = (108) := (i_eq rfl (show (108 : Int32).toInt = 108 from rfl)).mp c107) | (have t108 : r17.toInt = (108 : Int32).toInt := (i_eq rfl rfl).mp c107) | skip
                      unfold f_X12_thing_b140
                      intro I109 eI109
                      try (have t110 : ((I4 v0 26) + (1 : Int32)).toInt = ((I4 v0 26).toInt + (1)) := (i_add rfl (show (1 : Int32).toInt = 1 from rfl) (by omega) (by omega)))
                      have w_I109 : WD Z I109 := by rw [eI109]; exact WD_putF w_I4 12 26 kv0 (by decide) (by decide) trivial
                      have f_I109 : FR [(12, 26)] Z I4 Z I109 := by rw [eI109]; exact FR_putF kv0 (by decide) List.mem_cons_self
                      have q_I109 : FR Ws_R12 Z I Z I109 := q_I4.trans w_I.1 w_I.2.1 (f_I109.mono (by decide))
                      have u111 : (I109 v0 31).toInt = (I4 v0 31).toInt := by rw [f_I109.2.2.1 v0 12 31 kv0 (by decide) (by decide)]
                      have u112 : (I109 v0 32).toInt = (I4 v0 32).toInt := by rw [f_I109.2.2.1 v0 12 32 kv0 (by decide) (by decide)]
                      have u113 : (I109 v0 24).toInt = (I4 v0 24).toInt := by rw [f_I109.2.2.1 v0 12 24 kv0 (by decide) (by decide)]
                      have u114 : (I109 v0 25).toInt = (I4 v0 25).toInt := by rw [f_I109.2.2.1 v0 12 25 kv0 (by decide) (by decide)]
                      have u115 : (I109 v0 27).toInt = (I4 v0 27).toInt := by rw [f_I109.2.2.1 v0 12 27 kv0 (by decide) (by decide)]
                      first | (have u116 : (I109 v0 26).toInt = ((I4 v0 26).toInt + (1)) := by (rw [eI109, show jpI I4 v0 26 ((I4 v0 26) + (1 : Int32)) v0 26 = ((I4 v0 26) + (1 : Int32)) from jpI_at] <;> exact (i_add rfl (show (1 : Int32).toInt = 1 from rfl) (by omega) (by omega)))) | skip
                      refine ⟨fun c117 => ?_, fun c117 => ?_⟩
                      · skip
                        first | (have t118 : ¬ ((I109 v0 31).toInt = (-1)) := (not_congr (i_eq rfl (show (-1 : Int32).toInt = -1 from rfl))).mp c117) | (have t118 : ¬ ((I109 v0 31).toInt = (-1 : Int32).toInt) := (not_congr (i_eq rfl rfl)).mp c117) | skip
                        refine s_X12_letter w_I109 v0 ((r17.toUInt32 % 65536).toInt32) kv0  (by omega) (fun r119  => ?_)
                        have rr119 := i_rng r119
                        exact hQ r119 I109 L5 w_I109 q_I109 (by omega)
                      · skip
                        first | (have t120 : (I109 v0 31).toInt = (-1) := (i_eq rfl (show (-1 : Int32).toInt = -1 from rfl)).mp c117) | (have t120 : (I109 v0 31).toInt = (-1 : Int32).toInt := (i_eq rfl rfl).mp c117) | skip
                        have t121 : (0 : Int32).toInt = 0 := rfl
                        exact hQ (0 : Int32) I109 L5 w_I109 q_I109 (by omega)
                    · skip
                      first | (have t122 : ¬ (r17.toInt = (108)) := (not_congr (i_eq rfl (show (108 : Int32).toInt = 108 from rfl))).mp c107) | (have t122 : ¬ (r17.toInt = (108 : Int32).toInt) := (not_congr (i_eq rfl rfl)).mp c107) | skip
                      refine ⟨fun c123 => ?_, fun c123 => ?_⟩
                      · skip
                        first | (have t124 : r17.toInt = (106) := (i_eq rfl (show (106 : Int32).toInt = 106 from rfl)).mp c123) | (have t124 : r17.toInt = (106 : Int32).toInt := (i_eq rfl rfl).mp c123) | skip
                        unfold f_X12_thing_b140
                        intro I125 eI125
                        try (have t126 : ((I4 v0 26) + (1 : Int32)).toInt = ((I4 v0 26).toInt + (1)) := (i_add rfl (show (1 : Int32).toInt = 1 from rfl) (by omega) (by omega)))
                        have w_I125 : WD Z I125 := by rw [eI125]; exact WD_putF w_I4 12 26 kv0 (by decide) (by decide) trivial
                        have f_I125 : FR [(12, 26)] Z I4 Z I125 := by rw [eI125]; exact FR_putF kv0 (by decide) List.mem_cons_self
                        have q_I125 : FR Ws_R12 Z I Z I125 := q_I4.trans w_I.1 w_I.2.1 (f_I125.mono (by decide))
                        have u127 : (I125 v0 31).toInt = (I4 v0 31).toInt := by rw [f_I125.2.2.1 v0 12 31 kv0 (by decide) (by decide)]
                        have u128 : (I125 v0 32).toInt = (I4 v0 32).toInt := by rw [f_I125.2.2.1 v0 12 32 kv0 (by decide) (by decide)]
                        have u129 : (I125 v0 24).toInt = (I4 v0 24).toInt := by rw [f_I125.2.2.1 v0 12 24 kv0 (by decide) (by decide)]
                        have u130 : (I125 v0 25).toInt = (I4 v0 25).toInt := by rw [f_I125.2.2.1 v0 12 25 kv0 (by decide) (by decide)]
                        have u131 : (I125 v0 27).toInt = (I4 v0 27).toInt := by rw [f_I125.2.2.1 v0 12 27 kv0 (by decide) (by decide)]
                        first | (have u132 : (I125 v0 26).toInt = ((I4 v0 26).toInt + (1)) := by (rw [eI125, show jpI I4 v0 26 ((I4 v0 26) + (1 : Int32)) v0 26 = ((I4 v0 26) + (1 : Int32)) from jpI_at] <;> exact (i_add rfl (show (1 : Int32).toInt = 1 from rfl) (by omega) (by omega)))) | skip
                        refine ⟨fun c133 => ?_, fun c133 => ?_⟩
                        · skip
                          first | (have t134 : ¬ ((I125 v0 31).toInt = (-1)) := (not_congr (i_eq rfl (show (-1 : Int32).toInt = -1 from rfl))).mp c133) | (have t134 : ¬ ((I125 v0 31).toInt = (-1 : Int32).toInt) := (not_congr (i_eq rfl rfl)).mp c133) | skip
                          refine s_X12_letter w_I125 v0 ((r17.toUInt32 % 65536).toInt32) kv0  (by omega) (fun r135  => ?_)
                          have rr135 := i_rng r135
                          exact hQ r135 I125 L5 w_I125 q_I125 (by omega)
                        · skip
                          first | (have t136 : (I125 v0 31).toInt = (-1) := (i_eq rfl (show (-1 : Int32).toInt = -1 from rfl)).mp c133) | (have t136 : (I125 v0 31).toInt = (-1 : Int32).toInt := (i_eq rfl rfl).mp c133) | skip
                          have t137 : (0 : Int32).toInt = 0 := rfl
                          exact hQ (0 : Int32) I125 L5 w_I125 q_I125 (by omega)
                      · skip
                        first | (have t138 : ¬ (r17.toInt = (106)) := (not_congr (i_eq rfl (show (106 : Int32).toInt = 106 from rfl))).mp c123) | (have t138 : ¬ (r17.toInt = (106 : Int32).toInt) := (not_congr (i_eq rfl rfl)).mp c123) | skip
                        refine s_X12_fault w_I4 v0 (I4 v0 26) kv0   (fun  I140 L141 w_I140 f_I140 p139 => ?_)
                        have q_I140 : FR Ws_R12 Z I Z I140 := q_I4.trans w_I.1 w_I.2.1 (f_I140.mono (by decide))
                        have u142 : (I140 v0 31).toInt = (I4 v0 31).toInt := by rw [f_I140.2.2.1 v0 12 31 kv0 (by decide) (by decide)]
                        have u143 : (I140 v0 32).toInt = (I4 v0 32).toInt := by rw [f_I140.2.2.1 v0 12 32 kv0 (by decide) (by decide)]
                        have u144 : (I140 v0 24).toInt = (I4 v0 24).toInt := by rw [f_I140.2.2.1 v0 12 24 kv0 (by decide) (by decide)]
                        have u145 : (I140 v0 25).toInt = (I4 v0 25).toInt := by rw [f_I140.2.2.1 v0 12 25 kv0 (by decide) (by decide)]
                        have u146 : (I140 v0 26).toInt = (I4 v0 26).toInt := by rw [f_I140.2.2.1 v0 12 26 kv0 (by decide) (by decide)]
                        have t147 : (0 : Int32).toInt = 0 := rfl
                        exact hQ (0 : Int32) I140 L141 w_I140 q_I140 (by omega)
        · skip
          first | (have t148 : ¬ (r23.toInt = (0)) := (not_congr (i_eq rfl (show (0 : Int32).toInt = 0 from rfl))).mp c25) | (have t148 : ¬ (r23.toInt = (0 : Int32).toInt) := (not_congr (i_eq rfl rfl)).mp c25) | skip
          have t149 : (3 : Int32).toInt = 3 := rfl
          have t150 : (0 : Int32).toInt = 0 := rfl
          have t151 : (999 : Int32).toInt = 999 := rfl
          refine s_X12_number w_I4 v0 (3 : Int32) (0 : Int32) (999 : Int32) kv0 uR huR kuR (by omega) (by omega) (fun r152 I154 L155 w_I154 f_I154 p153 => ?_)
          have q_I154 : FR Ws_R12 Z I Z I154 := q_I4.trans w_I.1 w_I.2.1 (f_I154.mono (by decide))
          have u156 : (I154 v0 31).toInt = (I4 v0 31).toInt := by rw [f_I154.2.2.1 v0 12 31 kv0 (by decide) (by decide)]
          have u157 : (I154 v0 32).toInt = (I4 v0 32).toInt := by rw [f_I154.2.2.1 v0 12 32 kv0 (by decide) (by decide)]
          have u158 : (I154 v0 24).toInt = (I4 v0 24).toInt := by rw [f_I154.2.2.1 v0 12 24 kv0 (by decide) (by decide)]
          have u159 : (I154 v0 25).toInt = (I4 v0 25).toInt := by rw [f_I154.2.2.1 v0 12 25 kv0 (by decide) (by decide)]
          have rr152 := i_rng r152
          exact hQ r152 I154 L155 w_I154 q_I154 (by omega)
      · skip
        first | (have t160 : r17.toInt = (40) := (i_eq rfl (show (40 : Int32).toInt = 40 from rfl)).mp c19) | (have t160 : r17.toInt = (40 : Int32).toInt := (i_eq rfl rfl).mp c19) | skip
        refine ⟨fun c161 => ?_, fun c161 => ?_⟩
        · skip
          first | (have t162 : (4) ≤ v1.toInt := (i_le (show (4 : Int32).toInt = 4 from rfl) rfl).mp c161) | (have t162 : (4 : Int32).toInt ≤ v1.toInt := (i_le rfl rfl).mp c161) | skip
          unfold f_X12_thing_b67
          have t163 : (48 : Int32).toInt = 48 := rfl
          have t164 : (57 : Int32).toInt = 57 := rfl
          refine s_X12_in w_I4 r17 (48 : Int32) (57 : Int32)    (fun r165 p166 => ?_)
          have rr165 := i_rng r165
          refine ⟨fun c167 => ?_, fun c167 => ?_⟩
          · skip
            first | (have t168 : r165.toInt = (0) := (i_eq rfl (show (0 : Int32).toInt = 0 from rfl)).mp c167) | (have t168 : r165.toInt = (0 : Int32).toInt := (i_eq rfl rfl).mp c167) | skip
            refine ⟨fun c169 => ?_, fun c169 => ?_⟩
            · skip
              first | (have t170 : r17.toInt = (97) := (i_eq rfl (show (97 : Int32).toInt = 97 from rfl)).mp c169) | (have t170 : r17.toInt = (97 : Int32).toInt := (i_eq rfl rfl).mp c169) | skip
              unfold f_X12_thing_b140
              intro I171 eI171
              try (have t172 : ((I4 v0 26) + (1 : Int32)).toInt = ((I4 v0 26).toInt + (1)) := (i_add rfl (show (1 : Int32).toInt = 1 from rfl) (by omega) (by omega)))
              have w_I171 : WD Z I171 := by rw [eI171]; exact WD_putF w_I4 12 26 kv0 (by decide) (by decide) trivial
              have f_I171 : FR [(12, 26)] Z I4 Z I171 := by rw [eI171]; exact FR_putF kv0 (by decide) List.mem_cons_self
              have q_I171 : FR Ws_R12 Z I Z I171 := q_I4.trans w_I.1 w_I.2.1 (f_I171.mono (by decide))
              have u173 : (I171 v0 31).toInt = (I4 v0 31).toInt := by rw [f_I171.2.2.1 v0 12 31 kv0 (by decide) (by decide)]
              have u174 : (I171 v0 32).toInt = (I4 v0 32).toInt := by rw [f_I171.2.2.1 v0 12 32 kv0 (by decide) (by decide)]
              have u175 : (I171 v0 24).toInt = (I4 v0 24).toInt := by rw [f_I171.2.2.1 v0 12 24 kv0 (by decide) (by decide)]
              have u176 : (I171 v0 25).toInt = (I4 v0 25).toInt := by rw [f_I171.2.2.1 v0 12 25 kv0 (by decide) (by decide)]
              have u177 : (I171 v0 27).toInt = (I4 v0 27).toInt := by rw [f_I171.2.2.1 v0 12 27 kv0 (by decide) (by decide)]
              first | (have u178 : (I171 v0 26).toInt = ((I4 v0 26).toInt + (1)) := by (rw [eI171, show jpI I4 v0 26 ((I4 v0 26) + (1 : Int32)) v0 26 = ((I4 v0 26) + (1 : Int32)) from jpI_at] <;> exact (i_add rfl (show (1 : Int32).toInt = 1 from rfl) (by omega) (by omega)))) | skip
              refine ⟨fun c179 => ?_, fun c179 => ?_⟩
              · skip
                first | (have t180 : ¬ ((I171 v0 31).toInt = (-1)) := (not_congr (i_eq rfl (show (-1 : Int32).toInt = -1 from rfl))).mp c179) | (have t180 : ¬ ((I171 v0 31).toInt = (-1 : Int32).toInt) := (not_congr (i_eq rfl rfl)).mp c179) | skip
                refine s_X12_letter w_I171 v0 ((r17.toUInt32 % 65536).toInt32) kv0  (by omega) (fun r181  => ?_)
                have rr181 := i_rng r181
                exact hQ r181 I171 L5 w_I171 q_I171 (by omega)
              · skip
                first | (have t182 : (I171 v0 31).toInt = (-1) := (i_eq rfl (show (-1 : Int32).toInt = -1 from rfl)).mp c179) | (have t182 : (I171 v0 31).toInt = (-1 : Int32).toInt := (i_eq rfl rfl).mp c179) | skip
                have t183 : (0 : Int32).toInt = 0 := rfl
                exact hQ (0 : Int32) I171 L5 w_I171 q_I171 (by omega)
            · skip
              first | (have t184 : ¬ (r17.toInt = (97)) := (not_congr (i_eq rfl (show (97 : Int32).toInt = 97 from rfl))).mp c169) | (have t184 : ¬ (r17.toInt = (97 : Int32).toInt) := (not_congr (i_eq rfl rfl)).mp c169) | skip
              refine ⟨fun c185 => ?_, fun c185 => ?_⟩
              · skip
                first | (have t186 : r17.toInt = (114) := (i_eq rfl (show (114 : Int32).toInt = 114 from rfl)).mp c185) | (have t186 : r17.toInt = (114 : Int32).toInt := (i_eq rfl rfl).mp c185) | skip
                unfold f_X12_thing_b140
                intro I187 eI187
                try (have t188 : ((I4 v0 26) + (1 : Int32)).toInt = ((I4 v0 26).toInt + (1)) := (i_add rfl (show (1 : Int32).toInt = 1 from rfl) (by omega) (by omega)))
                have w_I187 : WD Z I187 := by rw [eI187]; exact WD_putF w_I4 12 26 kv0 (by decide) (by decide) trivial
                have f_I187 : FR [(12, 26)] Z I4 Z I187 := by rw [eI187]; exact FR_putF kv0 (by decide) List.mem_cons_self
                have q_I187 : FR Ws_R12 Z I Z I187 := q_I4.trans w_I.1 w_I.2.1 (f_I187.mono (by decide))
                have u189 : (I187 v0 31).toInt = (I4 v0 31).toInt := by rw [f_I187.2.2.1 v0 12 31 kv0 (by decide) (by decide)]
                have u190 : (I187 v0 32).toInt = (I4 v0 32).toInt := by rw [f_I187.2.2.1 v0 12 32 kv0 (by decide) (by decide)]
                have u191 : (I187 v0 24).toInt = (I4 v0 24).toInt := by rw [f_I187.2.2.1 v0 12 24 kv0 (by decide) (by decide)]
                have u192 : (I187 v0 25).toInt = (I4 v0 25).toInt := by rw [f_I187.2.2.1 v0 12 25 kv0 (by decide) (by decide)]
                have u193 : (I187 v0 27).toInt = (I4 v0 27).toInt := by rw [f_I187.2.2.1 v0 12 27 kv0 (by decide) (by decide)]
                first | (have u194 : (I187 v0 26).toInt = ((I4 v0 26).toInt + (1)) := by (rw [eI187, show jpI I4 v0 26 ((I4 v0 26) + (1 : Int32)) v0 26 = ((I4 v0 26) + (1 : Int32)) from jpI_at] <;> exact (i_add rfl (show (1 : Int32).toInt = 1 from rfl) (by omega) (by omega)))) | skip
                refine ⟨fun c195 => ?_, fun c195 => ?_⟩
                · skip
                  first | (have t196 : ¬ ((I187 v0 31).toInt = (-1)) := (not_congr (i_eq rfl (show (-1 : Int32).toInt = -1 from rfl))).mp c195) | (have t196 : ¬ ((I187 v0 31).toInt = (-1 : Int32).toInt) := (not_congr (i_eq rfl rfl)).mp c195) | skip
                  refine s_X12_letter w_I187 v0 ((r17.toUInt32 % 65536).toInt32) kv0  (by omega) (fun r197  => ?_)
                  have rr197 := i_rng r197
                  exact hQ r197 I187 L5 w_I187 q_I187 (by omega)
                · skip
                  first | (have t198 : (I187 v0 31).toInt = (-1) := (i_eq rfl (show (-1 : Int32).toInt = -1 from rfl)).mp c195) | (have t198 : (I187 v0 31).toInt = (-1 : Int32).toInt := (i_eq rfl rfl).mp c195) | skip
                  have t199 : (0 : Int32).toInt = 0 := rfl
                  exact hQ (0 : Int32) I187 L5 w_I187 q_I187 (by omega)
              · skip
                first | (have t200 : ¬ (r17.toInt = (114)) := (not_congr (i_eq rfl (show (114 : Int32).toInt = 114 from rfl))).mp c185) | (have t200 : ¬ (r17.toInt = (114 : Int32).toInt) := (not_congr (i_eq rfl rfl)).mp c185) | skip
                refine ⟨fun c201 => ?_, fun c201 => ?_⟩
                · skip
                  first | (have t202 : r17.toInt = (115) := (i_eq rfl (show (115 : Int32).toInt = 115 from rfl)).mp c201) | (have t202 : r17.toInt = (115 : Int32).toInt := (i_eq rfl rfl).mp c201) | skip
                  unfold f_X12_thing_b140
                  intro I203 eI203
                  try (have t204 : ((I4 v0 26) + (1 : Int32)).toInt = ((I4 v0 26).toInt + (1)) := (i_add rfl (show (1 : Int32).toInt = 1 from rfl) (by omega) (by omega)))
                  have w_I203 : WD Z I203 := by rw [eI203]; exact WD_putF w_I4 12 26 kv0 (by decide) (by decide) trivial
                  have f_I203 : FR [(12, 26)] Z I4 Z I203 := by rw [eI203]; exact FR_putF kv0 (by decide) List.mem_cons_self
                  have q_I203 : FR Ws_R12 Z I Z I203 := q_I4.trans w_I.1 w_I.2.1 (f_I203.mono (by decide))
                  have u205 : (I203 v0 31).toInt = (I4 v0 31).toInt := by rw [f_I203.2.2.1 v0 12 31 kv0 (by decide) (by decide)]
                  have u206 : (I203 v0 32).toInt = (I4 v0 32).toInt := by rw [f_I203.2.2.1 v0 12 32 kv0 (by decide) (by decide)]
                  have u207 : (I203 v0 24).toInt = (I4 v0 24).toInt := by rw [f_I203.2.2.1 v0 12 24 kv0 (by decide) (by decide)]
                  have u208 : (I203 v0 25).toInt = (I4 v0 25).toInt := by rw [f_I203.2.2.1 v0 12 25 kv0 (by decide) (by decide)]
                  have u209 : (I203 v0 27).toInt = (I4 v0 27).toInt := by rw [f_I203.2.2.1 v0 12 27 kv0 (by decide) (by decide)]
                  first | (have u210 : (I203 v0 26).toInt = ((I4 v0 26).toInt + (1)) := by (rw [eI203, show jpI I4 v0 26 ((I4 v0 26) + (1 : Int32)) v0 26 = ((I4 v0 26) + (1 : Int32)) from jpI_at] <;> exact (i_add rfl (show (1 : Int32).toInt = 1 from rfl) (by omega) (by omega)))) | skip
                  refine ⟨fun c211 => ?_, fun c211 => ?_⟩
                  · skip
                    first | (have t212 : ¬ ((I203 v0 31).toInt = (-1)) := (not_congr (i_eq rfl (show (-1 : Int32).toInt = -1 from rfl))).mp c211) | (have t212 : ¬ ((I203 v0 31).toInt = (-1 : Int32).toInt) := (not_congr (i_eq rfl rfl)).mp c211) | skip
                    refine s_X12_letter w_I203 v0 ((r17.toUInt32 % 65536).toInt32) kv0  (by omega) (fun r213  => ?_)
                    have rr213 := i_rng r213
                    exact hQ r213 I203 L5 w_I203 q_I203 (by omega)
                  · skip
                    first | (have t214 : (I203 v0 31).toInt = (-1) := (i_eq rfl (show (-1 : Int32).toInt = -1 from rfl)).mp c211) | (have t214 : (I203 v0 31).toInt = (-1 : Int32).toInt := (i_eq rfl rfl).mp c211) | skip
                    have t215 : (0 : Int32).toInt = 0 := rfl
                    exact hQ (0 : Int32) I203 L5 w_I203 q_I203 (by omega)
                · skip
                  first | (have t216 : ¬ (r17.toInt = (115)) := (not_congr (i_eq rfl (show (115 : Int32).toInt = 115 from rfl))).mp c201) | (have t216 : ¬ (r17.toInt = (115 : Int32).toInt) := (not_congr (i_eq rfl rfl)).mp c201) | skip
                  refine ⟨fun c217 => ?_, fun c217 => ?_⟩
                  · skip
                    first | (have t218 : r17.toInt = (119) := (i_eq rfl (show (119 : Int32).toInt = 119 from rfl)).mp c217) | (have t218 : r17.toInt = (119 : Int32).toInt := (i_eq rfl rfl).mp c217) | skip
                    unfold f_X12_thing_b140
                    intro I219 eI219
                    try (have t220 : ((I4 v0 26) + (1 : Int32)).toInt = ((I4 v0 26).toInt + (1)) := (i_add rfl (show (1 : Int32).toInt = 1 from rfl) (by omega) (by omega)))
                    have w_I219 : WD Z I219 := by rw [eI219]; exact WD_putF w_I4 12 26 kv0 (by decide) (by decide) trivial
                    have f_I219 : FR [(12, 26)] Z I4 Z I219 := by rw [eI219]; exact FR_putF kv0 (by decide) List.mem_cons_self
                    have q_I219 : FR Ws_R12 Z I Z I219 := q_I4.trans w_I.1 w_I.2.1 (f_I219.mono (by decide))
                    have u221 : (I219 v0 31).toInt = (I4 v0 31).toInt := by rw [f_I219.2.2.1 v0 12 31 kv0 (by decide) (by decide)]
                    have u222 : (I219 v0 32).toInt = (I4 v0 32).toInt := by rw [f_I219.2.2.1 v0 12 32 kv0 (by decide) (by decide)]
                    have u223 : (I219 v0 24).toInt = (I4 v0 24).toInt := by rw [f_I219.2.2.1 v0 12 24 kv0 (by decide) (by decide)]
                    have u224 : (I219 v0 25).toInt = (I4 v0 25).toInt := by rw [f_I219.2.2.1 v0 12 25 kv0 (by decide) (by decide)]
                    have u225 : (I219 v0 27).toInt = (I4 v0 27).toInt := by rw [f_I219.2.2.1 v0 12 27 kv0 (by decide) (by decide)]
                    first | (have u226 : (I219 v0 26).toInt = ((I4 v0 26).toInt + (1)) := by (rw [eI219, show jpI I4 v0 26 ((I4 v0 26) + (1 : Int32)) v0 26 = ((I4 v0 26) + (1 : Int32)) from jpI_at] <;> exact (i_add rfl (show (1 : Int32).toInt = 1 from rfl) (by omega) (by omega)))) | skip
                    refine ⟨fun c227 => ?_, fun c227 => ?_⟩
                    · skip
                      first | (have t228 : ¬ ((I219 v0 31).toInt = (-1)) := (not_congr (i_eq rfl (show (-1 : Int32).toInt = -1 from rfl))).mp c227) | (have t228 : ¬ ((I219 v0 31).toInt = (-1 : Int32).toInt) := (not_congr (i_eq rfl rfl)).mp c227) | skip
                      refine s_X12_letter w_I219 v0 ((r17.toUInt32 % 65536).toInt32) kv0  (by omega) (fun r229  => ?_)
                      have rr229 := i_rng r229
                      exact hQ r229 I219 L5 w_I219 q_I219 (by omega)
                    · skip
                      first | (have t230 : (I219 v0 31).toInt = (-1) := (i_eq rfl (show (-1 : Int32).toInt = -1 from rfl)).mp c227) | (have t230 : (I219 v0 31).toInt = (-1 : Int32).toInt := (i_eq rfl rfl).mp c227) | skip
                      have t231 : (0 : Int32).toInt = 0 := rfl
                      exact hQ (0 : Int32) I219 L5 w_I219 q_I219 (by omega)
                  · skip
                    first | (have t232 : ¬ (r17.toInt = (119)) := (not_congr (i_eq rfl (show (119 : Int32).toInt = 119 from rfl))).mp c217) | (have t232 : ¬ (r17.toInt = (119 : Int32).toInt) := (not_congr (i_eq rfl rfl)).mp c217) | skip
                    refine ⟨fun c233 => ?_, fun c233 => ?_⟩
                    · skip
                      first | (have t234 : r17.toInt = (120) := (i_eq rfl (show (120 : Int32).toInt = 120 from rfl)).mp c233) | (have t234 : r17.toInt = (120 : Int32).toInt := (i_eq rfl rfl).mp c233) | skip
                      unfold f_X12_thing_b140
                      intro I235 eI235
                      try (have t236 : ((I4 v0 26) + (1 : Int32)).toInt = ((I4 v0 26).toInt + (1)) := (i_add rfl (show (1 : Int32).toInt = 1 from rfl) (by omega) (by omega)))
                      have w_I235 : WD Z I235 := by rw [eI235]; exact WD_putF w_I4 12 26 kv0 (by decide) (by decide) trivial
                      have f_I235 : FR [(12, 26)] Z I4 Z I235 := by rw [eI235]; exact FR_putF kv0 (by decide) List.mem_cons_self
                      have q_I235 : FR Ws_R12 Z I Z I235 := q_I4.trans w_I.1 w_I.2.1 (f_I235.mono (by decide))
                      have u237 : (I235 v0 31).toInt = (I4 v0 31).toInt := by rw [f_I235.2.2.1 v0 12 31 kv0 (by decide) (by decide)]
                      have u238 : (I235 v0 32).toInt = (I4 v0 32).toInt := by rw [f_I235.2.2.1 v0 12 32 kv0 (by decide) (by decide)]
                      have u239 : (I235 v0 24).toInt = (I4 v0 24).toInt := by rw [f_I235.2.2.1 v0 12 24 kv0 (by decide) (by decide)]
                      have u240 : (I235 v0 25).toInt = (I4 v0 25).toInt := by rw [f_I235.2.2.1 v0 12 25 kv0 (by decide) (by decide)]
                      have u241 : (I235 v0 27).toInt = (I4 v0 27).toInt := by rw [f_I235.2.2.1 v0 12 27 kv0 (by decide) (by decide)]
                      first | (have u242 : (I235 v0 26).toInt = ((I4 v0 26).toInt + (1)) := by (rw [eI235, show jpI I4 v0 26 ((I4 v0 26) + (1 : Int32)) v0 26 = ((I4 v0 26) + (1 : Int32)) from jpI_at] <;> exact (i_add rfl (show (1 : Int32).toInt = 1 from rfl) (by omega) (by omega)))) | skip
                      refine ⟨fun c243 => ?_, fun c243 => ?_⟩
                      · skip
                        first | (have t244 : ¬ ((I235 v0 31).toInt = (-1)) := (not_congr (i_eq rfl (show (-1 : Int32).toInt = -1 from rfl))).mp c243) | (have t244 : ¬ ((I235 v0 31).toInt = (-1 : Int32).toInt) := (not_congr (i_eq rfl rfl)).mp c243) | skip
                        refine s_X12_letter w_I235 v0 ((r17.toUInt32 % 65536).toInt32) kv0  (by omega) (fun r245  => ?_)
                        have rr245 := i_rng r245
                        exact hQ r245 I235 L5 w_I235 q_I235 (by omega)
                      · skip
                        first | (have t246 : (I235 v0 31).toInt = (-1) := (i_eq rfl (show (-1 : Int32).toInt = -1 from rfl)).mp c243) | (have t246 : (I235 v0 31).toInt = (-1 : Int32).toInt := (i_eq rfl rfl).mp c243) | skip
                        have t247 : (0 : Int32).toInt = 0 := rfl
                        exact hQ (0 : Int32) I235 L5 w_I235 q_I235 (by omega)
                    · skip
                      first | (have t248 : ¬ (r17.toInt = (120)) := (not_congr (i_eq rfl (show (120 : Int32).toInt = 120 from rfl))).mp c233) | (have t248 : ¬ (r17.toInt = (120 : Int32).toInt) := (not_congr (i_eq rfl rfl)).mp c233) | skip
                      refine ⟨fun c249 => ?_, fun c249 => ?_⟩
                      · skip
                        first | (have t250 : r17.toInt = (108) := (i_eq rfl (show (108 : Int32).toInt = 108 from rfl)).mp c249) | (have t250 : r17.toInt = (108 : Int32).toInt := (i_eq rfl rfl).mp c249) | skip
                        unfold f_X12_thing_b140
                        intro I251 eI251
                        try (have t252 : ((I4 v0 26) + (1 : Int32)).toInt = ((I4 v0 26).toInt + (1)) := (i_add rfl (show (1 : Int32).toInt = 1 from rfl) (by omega) (by omega)))
                        have w_I251 : WD Z I251 := by rw [eI251]; exact WD_putF w_I4 12 26 kv0 (by decide) (by decide) trivial
                        have f_I251 : FR [(12, 26)] Z I4 Z I251 := by rw [eI251]; exact FR_putF kv0 (by decide) List.mem_cons_self
                        have q_I251 : FR Ws_R12 Z I Z I251 := q_I4.trans w_I.1 w_I.2.1 (f_I251.mono (by decide))
                        have u253 : (I251 v0 31).toInt = (I4 v0 31).toInt := by rw [f_I251.2.2.1 v0 12 31 kv0 (by decide) (by decide)]
                        have u254 : (I251 v0 32).toInt = (I4 v0 32).toInt := by rw [f_I251.2.2.1 v0 12 32 kv0 (by decide) (by decide)]
                        have u255 : (I251 v0 24).toInt = (I4 v0 24).toInt := by rw [f_I251.2.2.1 v0 12 24 kv0 (by decide) (by decide)]
                        have u256 : (I251 v0 25).toInt = (I4 v0 25).toInt := by rw [f_I251.2.2.1 v0 12 25 kv0 (by decide) (by decide)]
                        have u257 : (I251 v0 27).toInt = (I4 v0 27).toInt := by rw [f_I251.2.2.1 v0 12 27 kv0 (by decide) (by decide)]
                        first | (have u258 : (I251 v0 26).toInt = ((I4 v0 26).toInt + (1)) := by (rw [eI251, show jpI I4 v0 26 ((I4 v0 26) + (1 : Int32)) v0 26 = ((I4 v0 26) + (1 : Int32)) from jpI_at] <;> exact (i_add rfl (show (1 : Int32).toInt = 1 from rfl) (by omega) (by omega)))) | skip
                        refine ⟨fun c259 => ?_, fun c259 => ?_⟩
                        · skip
                          first | (have t260 : ¬ ((I251 v0 31).toInt = (-1)) := (not_congr (i_eq rfl (show (-1 : Int32).toInt = -1 from rfl))).mp c259) | (have t260 : ¬ ((I251 v0 31).toInt = (-1 : Int32).toInt) := (not_congr (i_eq rfl rfl)).mp c259) | skip
                          refine s_X12_letter w_I251 v0 ((r17.toUInt32 % 65536).toInt32) kv0  (by omega) (fun r261  => ?_)
                          have rr261 := i_rng r261
                          exact hQ r261 I251 L5 w_I251 q_I251 (by omega)
                        · skip
                          first | (have t262 : (I251 v0 31).toInt = (-1) := (i_eq rfl (show (-1 : Int32).toInt = -1 from rfl)).mp c259) | (have t262 : (I251 v0 31).toInt = (-1 : Int32).toInt := (i_eq rfl rfl).mp c259) | skip
                          have t263 : (0 : Int32).toInt = 0 := rfl
                          exact hQ (0 : Int32) I251 L5 w_I251 q_I251 (by omega)
                      · skip
                        first | (have t264 : ¬ (r17.toInt = (108)) := (not_congr (i_eq rfl (show (108 : Int32).toInt = 108 from rfl))).mp c249) | (have t264 : ¬ (r17.toInt = (108 : Int32).toInt) := (not_congr (i_eq rfl rfl)).mp c249) | skip
                        refine ⟨fun c265 => ?_, fun c265 => ?_⟩
                        · skip
                          first | (have t266 : r17.toInt = (106) := (i_eq rfl (show (106 : Int32).toInt = 106 from rfl)).mp c265) | (have t266 : r17.toInt = (106 : Int32).toInt := (i_eq rfl rfl).mp c265) | skip
                          unfold f_X12_thing_b140
                          intro I267 eI267
                          try (have t268 : ((I4 v0 26) + (1 : Int32)).toInt = ((I4 v0 26).toInt + (1)) := (i_add rfl (show (1 : Int32).toInt = 1 from rfl) (by omega) (by omega)))
                          have w_I267 : WD Z I267 := by rw [eI267]; exact WD_putF w_I4 12 26 kv0 (by decide) (by decide) trivial
                          have f_I267 : FR [(12, 26)] Z I4 Z I267 := by rw [eI267]; exact FR_putF kv0 (by decide) List.mem_cons_self
                          have q_I267 : FR Ws_R12 Z I Z I267 := q_I4.trans w_I.1 w_I.2.1 (f_I267.mono (by decide))
                          have u269 : (I267 v0 31).toInt = (I4 v0 31).toInt := by rw [f_I267.2.2.1 v0 12 31 kv0 (by decide) (by decide)]
                          have u270 : (I267 v0 32).toInt = (I4 v0 32).toInt := by rw [f_I267.2.2.1 v0 12 32 kv0 (by decide) (by decide)]
                          have u271 : (I267 v0 24).toInt = (I4 v0 24).toInt := by rw [f_I267.2.2.1 v0 12 24 kv0 (by decide) (by decide)]
                          have u272 : (I267 v0 25).toInt = (I4 v0 25).toInt := by rw [f_I267.2.2.1 v0 12 25 kv0 (by decide) (by decide)]
                          have u273 : (I267 v0 27).toInt = (I4 v0 27).toInt := by rw [f_I267.2.2.1 v0 12 27 kv0 (by decide) (by decide)]
                          first | (have u274 : (I267 v0 26).toInt = ((I4 v0 26).toInt + (1)) := by (rw [eI267, show jpI I4 v0 26 ((I4 v0 26) + (1 : Int32)) v0 26 = ((I4 v0 26) + (1 : Int32)) from jpI_at] <;> exact (i_add rfl (show (1 : Int32).toInt = 1 from rfl) (by omega) (by omega)))) | skip
                          refine ⟨fun c275 => ?_, fun c275 => ?_⟩
                          · skip
                            first | (have t276 : ¬ ((I267 v0 31).toInt = (-1)) := (not_congr (i_eq rfl (show (-1 : Int32).toInt = -1 from rfl))).mp c275) | (have t276 : ¬ ((I267 v0 31).toInt = (-1 : Int32).toInt) := (not_congr (i_eq rfl rfl)).mp c275) | skip
                            refine s_X12_letter w_I267 v0 ((r17.toUInt32 % 65536).toInt32) kv0  (by omega) (fun r277  => ?_)
                            have rr277 := i_rng r277
                            exact hQ r277 I267 L5 w_I267 q_I267 (by omega)
                          · skip
                            first | (have t278 : (I267 v0 31).toInt = (-1) := (i_eq rfl (show (-1 : Int32).toInt = -1 from rfl)).mp c275) | (have t278 : (I267 v0 31).toInt = (-1 : Int32).toInt := (i_eq rfl rfl).mp c275) | skip
                            have t279 : (0 : Int32).toInt = 0 := rfl
                            exact hQ (0 : Int32) I267 L5 w_I267 q_I267 (by omega)
                        · skip
                          first | (have t280 : ¬ (r17.toInt = (106)) := (not_congr (i_eq rfl (show (106 : Int32).toInt = 106 from rfl))).mp c265) | (have t280 : ¬ (r17.toInt = (106 : Int32).toInt) := (not_congr (i_eq rfl rfl)).mp c265) | skip
                          refine s_X12_fault w_I4 v0 (I4 v0 26) kv0   (fun  I282 L283 w_I282 f_I282 p281 => ?_)
                          have q_I282 : FR Ws_R12 Z I Z I282 := q_I4.trans w_I.1 w_I.2.1 (f_I282.mono (by decide))
                          have u284 : (I282 v0 31).toInt = (I4 v0 31).toInt := by rw [f_I282.2.2.1 v0 12 31 kv0 (by decide) (by decide)]
                          have u285 : (I282 v0 32).toInt = (I4 v0 32).toInt := by rw [f_I282.2.2.1 v0 12 32 kv0 (by decide) (by decide)]
                          have u286 : (I282 v0 24).toInt = (I4 v0 24).toInt := by rw [f_I282.2.2.1 v0 12 24 kv0 (by decide) (by decide)]
                          have u287 : (I282 v0 25).toInt = (I4 v0 25).toInt := by rw [f_I282.2.2.1 v0 12 25 kv0 (by decide) (by decide)]
                          have u288 : (I282 v0 26).toInt = (I4 v0 26).toInt := by rw [f_I282.2.2.1 v0 12 26 kv0 (by decide) (by decide)]
                          have t289 : (0 : Int32).toInt = 0 := rfl
                          exact hQ (0 : Int32) I282 L283 w_I282 q_I282 (by omega)
          · skip
            first | (have t290 : ¬ (r165.toInt = (0)) := (not_congr (i_eq rfl (show (0 : Int32).toInt = 0 from rfl))).mp c167) | (have t290 : ¬ (r165.toInt = (0 : Int32).toInt) := (not_congr (i_eq rfl rfl)).mp c167) | skip
            have t291 : (3 : Int32).toInt = 3 := rfl
            have t292 : (0 : Int32).toInt = 0 := rfl
            have t293 : (999 : Int32).toInt = 999 := rfl
            refine s_X12_number w_I4 v0 (3 : Int32) (0 : Int32) (999 : Int32) kv0 uR huR kuR (by omega) (by omega) (fun r294 I296 L297 w_I296 f_I296 p295 => ?_)
            have q_I296 : FR Ws_R12 Z I Z I296 := q_I4.trans w_I.1 w_I.2.1 (f_I296.mono (by decide))
            have u298 : (I296 v0 31).toInt = (I4 v0 31).toInt := by rw [f_I296.2.2.1 v0 12 31 kv0 (by decide) (by decide)]
            have u299 : (I296 v0 32).toInt = (I4 v0 32).toInt := by rw [f_I296.2.2.1 v0 12 32 kv0 (by decide) (by decide)]
            have u300 : (I296 v0 24).toInt = (I4 v0 24).toInt := by rw [f_I296.2.2.1 v0 12 24 kv0 (by decide) (by decide)]
            have u301 : (I296 v0 25).toInt = (I4 v0 25).toInt := by rw [f_I296.2.2.1 v0 12 25 kv0 (by decide) (by decide)]
            have rr294 := i_rng r294
            exact hQ r294 I296 L297 w_I296 q_I296 (by omega)
        · skip
          first | (have t302 : ¬ ((4) ≤ v1.toInt) := (not_congr (i_le (show (4 : Int32).toInt = 4 from rfl) rfl)).mp c161) | (have t302 : ¬ ((4 : Int32).toInt ≤ v1.toInt) := (not_congr (i_le rfl rfl)).mp c161) | skip
          intro I303 eI303
          try (have t304 : ((I4 v0 26) + (1 : Int32)).toInt = ((I4 v0 26).toInt + (1)) := (i_add rfl (show (1 : Int32).toInt = 1 from rfl) (by omega) (by omega)))
          have w_I303 : WD Z I303 := by rw [eI303]; exact WD_putF w_I4 12 26 kv0 (by decide) (by decide) trivial
          have f_I303 : FR [(12, 26)] Z I4 Z I303 := by rw [eI303]; exact FR_putF kv0 (by decide) List.mem_cons_self
          have q_I303 : FR Ws_R12 Z I Z I303 := q_I4.trans w_I.1 w_I.2.1 (f_I303.mono (by decide))
          have u305 : (I303 v0 31).toInt = (I4 v0 31).toInt := by rw [f_I303.2.2.1 v0 12 31 kv0 (by decide) (by decide)]
          have u306 : (I303 v0 32).toInt = (I4 v0 32).toInt := by rw [f_I303.2.2.1 v0 12 32 kv0 (by decide) (by decide)]
          have u307 : (I303 v0 24).toInt = (I4 v0 24).toInt := by rw [f_I303.2.2.1 v0 12 24 kv0 (by decide) (by decide)]
          have u308 : (I303 v0 25).toInt = (I4 v0 25).toInt := by rw [f_I303.2.2.1 v0 12 25 kv0 (by decide) (by decide)]
          have u309 : (I303 v0 27).toInt = (I4 v0 27).toInt := by rw [f_I303.2.2.1 v0 12 27 kv0 (by decide) (by decide)]
          first | (have u310 : (I303 v0 26).toInt = ((I4 v0 26).toInt + (1)) := by (rw [eI303, show jpI I4 v0 26 ((I4 v0 26) + (1 : Int32)) v0 26 = ((I4 v0 26) + (1 : Int32)) from jpI_at] <;> exact (i_add rfl (show (1 : Int32).toInt = 1 from rfl) (by omega) (by omega)))) | skip
          try (have t311 : (v1 + (1 : Int32)).toInt = (v1.toInt + (1)) := (i_add rfl (show (1 : Int32).toInt = 1 from rfl) (by omega) (by omega)))
          refine hF 0 (by decide) Z I303 L5 w_I303 v0 (v1 + (1 : Int32)) kv0 uR huR kuR (by omega) (by omega) (by omega) (by omega) _ (fun r312 I314 L315 w_I314 f_I314 p316 => ?_)
          have q_I314 : FR Ws_R12 Z I Z I314 := q_I303.trans w_I.1 w_I.2.1 (f_I314.mono (by decide))
          have u317 : (I314 v0 31).toInt = (I303 v0 31).toInt := by rw [f_I314.2.2.1 v0 12 31 kv0 (by decide) (by decide)]
          have u318 : (I314 v0 32).toInt = (I303 v0 32).toInt := by rw [f_I314.2.2.1 v0 12 32 kv0 (by decide) (by decide)]
          have u319 : (I314 v0 24).toInt = (I303 v0 24).toInt := by rw [f_I314.2.2.1 v0 12 24 kv0 (by decide) (by decide)]
          have u320 : (I314 v0 25).toInt = (I303 v0 25).toInt := by rw [f_I314.2.2.1 v0 12 25 kv0 (by decide) (by decide)]
          have rr312 := i_rng r312
          have t321 : (41 : Int32).toInt = 41 := rfl
          refine s_X12_need w_I314 v0 (41 : Int32) kv0 uR huR kuR (by omega) (by omega) (fun  I323 L324 w_I323 f_I323 p322 => ?_)
          have q_I323 : FR Ws_R12 Z I Z I323 := q_I314.trans w_I.1 w_I.2.1 (f_I323.mono (by decide))
          have u325 : (I323 v0 31).toInt = (I314 v0 31).toInt := by rw [f_I323.2.2.1 v0 12 31 kv0 (by decide) (by decide)]
          have u326 : (I323 v0 32).toInt = (I314 v0 32).toInt := by rw [f_I323.2.2.1 v0 12 32 kv0 (by decide) (by decide)]
          have u327 : (I323 v0 24).toInt = (I314 v0 24).toInt := by rw [f_I323.2.2.1 v0 12 24 kv0 (by decide) (by decide)]
          have u328 : (I323 v0 25).toInt = (I314 v0 25).toInt := by rw [f_I323.2.2.1 v0 12 25 kv0 (by decide) (by decide)]
          exact hQ r312 I323 L324 w_I323 q_I323 (by omega)
    · skip
      first | (have t329 : r13.toInt = (0) := (i_eq rfl (show (0 : Int32).toInt = 0 from rfl)).mp c15) | (have t329 : r13.toInt = (0 : Int32).toInt := (i_eq rfl rfl).mp c15) | skip
      have t330 : (0 : Int32).toInt = 0 := rfl
      exact hQ (0 : Int32) I4 L5 w_I4 q_I4 (by omega)
  · skip
    first | (have t331 : ¬ (r2.toInt = (0)) := (not_congr (i_eq rfl (show (0 : Int32).toInt = 0 from rfl))).mp c11) | (have t331 : ¬ (r2.toInt = (0 : Int32).toInt) := (not_congr (i_eq rfl rfl)).mp c11) | skip
    refine hF 3 (by decide) Z I4 L5 w_I4 v0 v1 kv0 uR huR kuR (by omega) (by omega) (by omega) (by omega) _ (fun r332 I334 L335 w_I334 f_I334 p336 => ?_)
    have q_I334 : FR Ws_R12 Z I Z I334 := q_I4.trans w_I.1 w_I.2.1 (f_I334.mono (by decide))
    have u337 : (I334 v0 31).toInt = (I4 v0 31).toInt := by rw [f_I334.2.2.1 v0 12 31 kv0 (by decide) (by decide)]
    have u338 : (I334 v0 32).toInt = (I4 v0 32).toInt := by rw [f_I334.2.2.1 v0 12 32 kv0 (by decide) (by decide)]
    have u339 : (I334 v0 24).toInt = (I4 v0 24).toInt := by rw [f_I334.2.2.1 v0 12 24 kv0 (by decide) (by decide)]
    have u340 : (I334 v0 25).toInt = (I4 v0 25).toInt := by rw [f_I334.2.2.1 v0 12 25 kv0 (by decide) (by decide)]
    have rr332 := i_rng r332
    try (have t341 : (-r332).toInt = (-r332.toInt) := (i_neg rfl (by omega)))
    exact hQ (-r332) I334 L335 w_I334 q_I334 (by omega)
set_option maxHeartbeats 4000000 in
set_option maxRecDepth 100000 in
theorem l_X12_product_L6 {d : Nat} {F : FTR12} (hF : HS12 d F) {Z : jZ} {I0 : jI} {Q : Int32 → jI → jL → Prop} (w0 : WD Z I0) (v0 : Nat) (v1 : Int32) (kv0 : jk Z v0 12) (uR : Nat) (huR : jr Z v0 23 = some uR) (kuR : jk Z uR 13) (p0 : 0 ≤ (I0 v0 26).toInt ∧ (I0 v0 26).toInt ≤ (I0 v0 24).toInt ∧ (I0 v0 26).toInt ≤ (I0 v0 25).toInt ∧ (I0 v0 24).toInt ≤ (jlen Z uR : Int) ∧ jlen Z uR ≤ 80) (p1 : ((I0 v0 31).toInt = -1 ∨ (0 ≤ (I0 v0 31).toInt ∧ (I0 v0 31).toInt ≤ 23 ∧ (I0 v0 32).toInt ≤ 23))) (p2 : 0 ≤ v1.toInt ∧ v1.toInt ≤ 4) (p3 : (I0 v0 25).toInt - (I0 v0 26).toInt + 4 * (4 - v1.toInt) + 4 - 2 ≤ (d : Int) + 1) (hQ : ∀ (r : Int32) (I' : jI) (L' : jL), WD Z I' → FR Ws_R12 Z I0 Z I' → ((I0 v0 26).toInt ≤ (I' v0 26).toInt ∧ (I' v0 26).toInt ≤ (I0 v0 24).toInt ∧ (I' v0 26).toInt ≤ (I0 v0 25).toInt ∧ (¬ (I0 v0 27).toInt = -1 → ¬ (I' v0 27).toInt = -1)) → Q r I' L') : ∀ (n : Nat) (v2 : Int32) (I : jI) (L : jL), WD Z I → FR Ws_R12 Z I0 Z I →   (0 ≤ (I v0 26).toInt ∧ (I v0 26).toInt ≤ (I v0 24).toInt ∧ (I v0 26).toInt ≤ (I v0 25).toInt ∧ (I v0 24).toInt ≤ (jlen Z uR : Int) ∧ jlen Z uR ≤ 80 ∧ ((I v0 31).toInt = -1 ∨ (0 ≤ (I v0 31).toInt ∧ (I v0 31).toInt ≤ 23 ∧ (I v0 32).toInt ≤ 23)) ∧ (I0 v0 26).toInt ≤ (I v0 26).toInt ∧ (I v0 24).toInt = (I0 v0 24).toInt ∧ (I v0 25).toInt = (I0 v0 25).toInt ∧ (¬ (I0 v0 27).toInt = -1 → ¬ (I v0 27).toInt = -1)) → (I v0 25).toInt - (I v0 26).toInt < (n : Int) → f_X12_product_L6 F  Z Q n v0 v1 v2 I L := by
  intro n
  induction n with
  | zero =>
    intro v2 I L w_I q_I   li  me
    exfalso
    omega
  | succ n ih =>
    intro v2 I L w_I q_I   li  me
    unfold f_X12_product_L6
    have rv2 := i_rng v2
    have rv1 := i_rng v1
    refine s_X12_fine w_I v0 kv0   (fun r1 p2 => ?_)
    have rr1 := i_rng r1
    refine ⟨fun c3 => ?_, fun c3 => ?_⟩
    · skip
      first | (have t4 : r1.toInt = (0) := (i_eq rfl (show (0 : Int32).toInt = 0 from rfl)).mp c3) | (have t4 : r1.toInt = (0 : Int32).toInt := (i_eq rfl rfl).mp c3) | skip
      exact hQ v2 I L w_I q_I (by omega)
    · skip
      first | (have t5 : ¬ (r1.toInt = (0)) := (not_congr (i_eq rfl (show (0 : Int32).toInt = 0 from rfl))).mp c3) | (have t5 : ¬ (r1.toInt = (0 : Int32).toInt) := (not_congr (i_eq rfl rfl)).mp c3) | skip
      refine s_X12_here w_I v0 kv0 uR huR kuR (by omega) (fun r6 p7 => ?_)
      have rr6 := i_rng r6
      refine ⟨fun c8 => ?_, fun c8 => ?_⟩
      · skip
        first | (have t9 : r6.toInt = (42) := (i_eq rfl (show (42 : Int32).toInt = 42 from rfl)).mp c8) | (have t9 : r6.toInt = (42 : Int32).toInt := (i_eq rfl rfl).mp c8) | skip
        unfold f_X12_product_b31
        refine s_X12_here w_I v0 kv0 uR huR kuR (by omega) (fun r10 p11 => ?_)
        have rr10 := i_rng r10
        refine ⟨fun c12 => ?_, fun c12 => ?_⟩
        · skip
          first | (have t13 : ¬ (r10.toInt = (42)) := (not_congr (i_eq rfl (show (42 : Int32).toInt = 42 from rfl))).mp c12) | (have t13 : ¬ (r10.toInt = (42 : Int32).toInt) := (not_congr (i_eq rfl rfl)).mp c12) | skip
          unfold f_X12_product_b45
          intro I14 eI14
          try (have t15 : ((I v0 26) + (1 : Int32)).toInt = ((I v0 26).toInt + (1)) := (i_add rfl (show (1 : Int32).toInt = 1 from rfl) (by omega) (by omega)))
          have w_I14 : WD Z I14 := by rw [eI14]; exact WD_putF w_I 12 26 kv0 (by decide) (by decide) trivial
          have f_I14 : FR [(12, 26)] Z I Z I14 := by rw [eI14]; exact FR_putF kv0 (by decide) List.mem_cons_self
          have q_I14 : FR Ws_R12 Z I0 Z I14 := q_I.trans w0.1 w0.2.1 (f_I14.mono (by decide))
          have u16 : (I14 v0 31).toInt = (I v0 31).toInt := by rw [f_I14.2.2.1 v0 12 31 kv0 (by decide) (by decide)]
          have u17 : (I14 v0 32).toInt = (I v0 32).toInt := by rw [f_I14.2.2.1 v0 12 32 kv0 (by decide) (by decide)]
          have u18 : (I14 v0 24).toInt = (I v0 24).toInt := by rw [f_I14.2.2.1 v0 12 24 kv0 (by decide) (by decide)]
          have u19 : (I14 v0 25).toInt = (I v0 25).toInt := by rw [f_I14.2.2.1 v0 12 25 kv0 (by decide) (by decide)]
          have u20 : (I14 v0 27).toInt = (I v0 27).toInt := by rw [f_I14.2.2.1 v0 12 27 kv0 (by decide) (by decide)]
          first | (have u21 : (I14 v0 26).toInt = ((I v0 26).toInt + (1)) := by (rw [eI14, show jpI I v0 26 ((I v0 26) + (1 : Int32)) v0 26 = ((I v0 26) + (1 : Int32)) from jpI_at] <;> exact (i_add rfl (show (1 : Int32).toInt = 1 from rfl) (by omega) (by omega)))) | skip
          refine hF 3 (by decide) Z I14 L w_I14 v0 v1 kv0 uR huR kuR (by omega) (by omega) (by omega) (by omega) _ (fun r22 I24 L25 w_I24 f_I24 p26 => ?_)
          have q_I24 : FR Ws_R12 Z I0 Z I24 := q_I14.trans w0.1 w0.2.1 (f_I24.mono (by decide))
          have u27 : (I24 v0 31).toInt = (I14 v0 31).toInt := by rw [f_I24.2.2.1 v0 12 31 kv0 (by decide) (by decide)]
          have u28 : (I24 v0 32).toInt = (I14 v0 32).toInt := by rw [f_I24.2.2.1 v0 12 32 kv0 (by decide) (by decide)]
          have u29 : (I24 v0 24).toInt = (I14 v0 24).toInt := by rw [f_I24.2.2.1 v0 12 24 kv0 (by decide) (by decide)]
          have u30 : (I24 v0 25).toInt = (I14 v0 25).toInt := by rw [f_I24.2.2.1 v0 12 25 kv0 (by decide) (by decide)]
          have rr22 := i_rng r22
          refine ⟨fun c31 => ?_, fun c31 => ?_⟩
          · skip
            first | (have t32 : (0) = (0) := (i_eq (show (0 : Int32).toInt = 0 from rfl) (show (0 : Int32).toInt = 0 from rfl)).mp c31) | (have t32 : (0 : Int32).toInt = (0 : Int32).toInt := (i_eq rfl rfl).mp c31) | skip
            refine ⟨fun c33 => ?_, fun c33 => ?_⟩
            · skip
              first | (have t34 : ¬ (r22.toInt = (0)) := (not_congr (i_eq rfl (show (0 : Int32).toInt = 0 from rfl))).mp c33) | (have t34 : ¬ (r22.toInt = (0 : Int32).toInt) := (not_congr (i_eq rfl rfl)).mp c33) | skip
              refine ⟨(not_congr (i_eq rfl (show (0 : Int32).toInt = 0 from rfl))).mpr (by omega), ?_⟩
              unfold f_X12_product_b87
              exact ih (v2 / r22) I24 L25 w_I24 q_I24   (by omega)  (by omega)
            · skip
              first | (have t35 : r22.toInt = (0) := (i_eq rfl (show (0 : Int32).toInt = 0 from rfl)).mp c33) | (have t35 : r22.toInt = (0 : Int32).toInt := (i_eq rfl rfl).mp c33) | skip
              unfold f_X12_product_b87
              have t36 : (0 : Int32).toInt = 0 := rfl
              exact ih (0 : Int32) I24 L25 w_I24 q_I24   (by omega)  (by omega)
          · skip
            first | (have t37 : ¬ ((0) = (0)) := (not_congr (i_eq (show (0 : Int32).toInt = 0 from rfl) (show (0 : Int32).toInt = 0 from rfl))).mp c31) | (have t37 : ¬ ((0 : Int32).toInt = (0 : Int32).toInt) := (not_congr (i_eq rfl rfl)).mp c31) | skip
            unfold f_X12_product_b87
            exact ih (v2 * r22) I24 L25 w_I24 q_I24   (by omega)  (by omega)
        · skip
          first | (have t38 : r10.toInt = (42) := (i_eq rfl (show (42 : Int32).toInt = 42 from rfl)).mp c12) | (have t38 : r10.toInt = (42 : Int32).toInt := (i_eq rfl rfl).mp c12) | skip
          unfold f_X12_product_b45
          intro I39 eI39
          try (have t40 : ((I v0 26) + (1 : Int32)).toInt = ((I v0 26).toInt + (1)) := (i_add rfl (show (1 : Int32).toInt = 1 from rfl) (by omega) (by omega)))
          have w_I39 : WD Z I39 := by rw [eI39]; exact WD_putF w_I 12 26 kv0 (by decide) (by decide) trivial
          have f_I39 : FR [(12, 26)] Z I Z I39 := by rw [eI39]; exact FR_putF kv0 (by decide) List.mem_cons_self
          have q_I39 : FR Ws_R12 Z I0 Z I39 := q_I.trans w0.1 w0.2.1 (f_I39.mono (by decide))
          have u41 : (I39 v0 31).toInt = (I v0 31).toInt := by rw [f_I39.2.2.1 v0 12 31 kv0 (by decide) (by decide)]
          have u42 : (I39 v0 32).toInt = (I v0 32).toInt := by rw [f_I39.2.2.1 v0 12 32 kv0 (by decide) (by decide)]
          have u43 : (I39 v0 24).toInt = (I v0 24).toInt := by rw [f_I39.2.2.1 v0 12 24 kv0 (by decide) (by decide)]
          have u44 : (I39 v0 25).toInt = (I v0 25).toInt := by rw [f_I39.2.2.1 v0 12 25 kv0 (by decide) (by decide)]
          have u45 : (I39 v0 27).toInt = (I v0 27).toInt := by rw [f_I39.2.2.1 v0 12 27 kv0 (by decide) (by decide)]
          first | (have u46 : (I39 v0 26).toInt = ((I v0 26).toInt + (1)) := by (rw [eI39, show jpI I v0 26 ((I v0 26) + (1 : Int32)) v0 26 = ((I v0 26) + (1 : Int32)) from jpI_at] <;> exact (i_add rfl (show (1 : Int32).toInt = 1 from rfl) (by omega) (by omega)))) | skip
          refine hF 3 (by decide) Z I39 L w_I39 v0 v1 kv0 uR huR kuR (by omega) (by omega) (by omega) (by omega) _ (fun r47 I49 L50 w_I49 f_I49 p51 => ?_)
          have q_I49 : FR Ws_R12 Z I0 Z I49 := q_I39.trans w0.1 w0.2.1 (f_I49.mono (by decide))
          have u52 : (I49 v0 31).toInt = (I39 v0 31).toInt := by rw [f_I49.2.2.1 v0 12 31 kv0 (by decide) (by decide)]
          have u53 : (I49 v0 32).toInt = (I39 v0 32).toInt := by rw [f_I49.2.2.1 v0 12 32 kv0 (by decide) (by decide)]
          have u54 : (I49 v0 24).toInt = (I39 v0 24).toInt := by rw [f_I49.2.2.1 v0 12 24 kv0 (by decide) (by decide)]
          have u55 : (I49 v0 25).toInt = (I39 v0 25).toInt := by rw [f_I49.2.2.1 v0 12 25 kv0 (by decide) (by decide)]
          have rr47 := i_rng r47
          refine ⟨fun c56 => ?_, fun c56 => ?_⟩
          · skip
            first | (have t57 : (1) = (0) := (i_eq (show (1 : Int32).toInt = 1 from rfl) (show (0 : Int32).toInt = 0 from rfl)).mp c56) | (have t57 : (1 : Int32).toInt = (0 : Int32).toInt := (i_eq rfl rfl).mp c56) | skip
            refine ⟨fun c58 => ?_, fun c58 => ?_⟩
            · skip
              first | (have t59 : ¬ (r47.toInt = (0)) := (not_congr (i_eq rfl (show (0 : Int32).toInt = 0 from rfl))).mp c58) | (have t59 : ¬ (r47.toInt = (0 : Int32).toInt) := (not_congr (i_eq rfl rfl)).mp c58) | skip
              refine ⟨(not_congr (i_eq rfl (show (0 : Int32).toInt = 0 from rfl))).mpr (by omega), ?_⟩
              unfold f_X12_product_b87
              exact ih (v2 / r47) I49 L50 w_I49 q_I49   (by omega)  (by omega)
            · skip
              first | (have t60 : r47.toInt = (0) := (i_eq rfl (show (0 : Int32).toInt = 0 from rfl)).mp c58) | (have t60 : r47.toInt = (0 : Int32).toInt := (i_eq rfl rfl).mp c58) | skip
              unfold f_X12_product_b87
              have t61 : (0 : Int32).toInt = 0 := rfl
              exact ih (0 : Int32) I49 L50 w_I49 q_I49   (by omega)  (by omega)
          · skip
            first | (have t62 : ¬ ((1) = (0)) := (not_congr (i_eq (show (1 : Int32).toInt = 1 from rfl) (show (0 : Int32).toInt = 0 from rfl))).mp c56) | (have t62 : ¬ ((1 : Int32).toInt = (0 : Int32).toInt) := (not_congr (i_eq rfl rfl)).mp c56) | skip
            unfold f_X12_product_b87
            exact ih (v2 * r47) I49 L50 w_I49 q_I49   (by omega)  (by omega)
      · skip
        first | (have t63 : ¬ (r6.toInt = (42)) := (not_congr (i_eq rfl (show (42 : Int32).toInt = 42 from rfl))).mp c8) | (have t63 : ¬ (r6.toInt = (42 : Int32).toInt) := (not_congr (i_eq rfl rfl)).mp c8) | skip
        refine s_X12_here w_I v0 kv0 uR huR kuR (by omega) (fun r64 p65 => ?_)
        have rr64 := i_rng r64
        refine ⟨fun c66 => ?_, fun c66 => ?_⟩
        · skip
          first | (have t67 : ¬ (r64.toInt = (47)) := (not_congr (i_eq rfl (show (47 : Int32).toInt = 47 from rfl))).mp c66) | (have t67 : ¬ (r64.toInt = (47 : Int32).toInt) := (not_congr (i_eq rfl rfl)).mp c66) | skip
          exact hQ v2 I L w_I q_I (by omega)
        · skip
          first | (have t68 : r64.toInt = (47) := (i_eq rfl (show (47 : Int32).toInt = 47 from rfl)).mp c66) | (have t68 : r64.toInt = (47 : Int32).toInt := (i_eq rfl rfl).mp c66) | skip
          unfold f_X12_product_b31
          refine s_X12_here w_I v0 kv0 uR huR kuR (by omega) (fun r69 p70 => ?_)
          have rr69 := i_rng r69
          refine ⟨fun c71 => ?_, fun c71 => ?_⟩
          · skip
            first | (have t72 : ¬ (r69.toInt = (42)) := (not_congr (i_eq rfl (show (42 : Int32).toInt = 42 from rfl))).mp c71) | (have t72 : ¬ (r69.toInt = (42 : Int32).toInt) := (not_congr (i_eq rfl rfl)).mp c71) | skip
            unfold f_X12_product_b45
            intro I73 eI73
            try (have t74 : ((I v0 26) + (1 : Int32)).toInt = ((I v0 26).toInt + (1)) := (i_add rfl (show (1 : Int32).toInt = 1 from rfl) (by omega) (by omega)))
            have w_I73 : WD Z I73 := by rw [eI73]; exact WD_putF w_I 12 26 kv0 (by decide) (by decide) trivial
            have f_I73 : FR [(12, 26)] Z I Z I73 := by rw [eI73]; exact FR_putF kv0 (by decide) List.mem_cons_self
            have q_I73 : FR Ws_R12 Z I0 Z I73 := q_I.trans w0.1 w0.2.1 (f_I73.mono (by decide))
            have u75 : (I73 v0 31).toInt = (I v0 31).toInt := by rw [f_I73.2.2.1 v0 12 31 kv0 (by decide) (by decide)]
            have u76 : (I73 v0 32).toInt = (I v0 32).toInt := by rw [f_I73.2.2.1 v0 12 32 kv0 (by decide) (by decide)]
            have u77 : (I73 v0 24).toInt = (I v0 24).toInt := by rw [f_I73.2.2.1 v0 12 24 kv0 (by decide) (by decide)]
            have u78 : (I73 v0 25).toInt = (I v0 25).toInt := by rw [f_I73.2.2.1 v0 12 25 kv0 (by decide) (by decide)]
            have u79 : (I73 v0 27).toInt = (I v0 27).toInt := by rw [f_I73.2.2.1 v0 12 27 kv0 (by decide) (by decide)]
            first | (have u80 : (I73 v0 26).toInt = ((I v0 26).toInt + (1)) := by (rw [eI73, show jpI I v0 26 ((I v0 26) + (1 : Int32)) v0 26 = ((I v0 26) + (1 : Int32)) from jpI_at] <;> exact (i_add rfl (show (1 : Int32).toInt = 1 from rfl) (by omega) (by omega)))) | skip
            refine hF 3 (by decide) Z I73 L w_I73 v0 v1 kv0 uR huR kuR (by omega) (by omega) (by omega) (by omega) _ (fun r81 I83 L84 w_I83 f_I83 p85 => ?_)
            have q_I83 : FR Ws_R12 Z I0 Z I83 := q_I73.trans w0.1 w0.2.1 (f_I83.mono (by decide))
            have u86 : (I83 v0 31).toInt = (I73 v0 31).toInt := by rw [f_I83.2.2.1 v0 12 31 kv0 (by decide) (by decide)]
            have u87 : (I83 v0 32).toInt = (I73 v0 32).toInt := by rw [f_I83.2.2.1 v0 12 32 kv0 (by decide) (by decide)]
            have u88 : (I83 v0 24).toInt = (I73 v0 24).toInt := by rw [f_I83.2.2.1 v0 12 24 kv0 (by decide) (by decide)]
            have u89 : (I83 v0 25).toInt = (I73 v0 25).toInt := by rw [f_I83.2.2.1 v0 12 25 kv0 (by decide) (by decide)]
            have rr81 := i_rng r81
            refine ⟨fun c90 => ?_, fun c90 => ?_⟩
            · skip
              first | (have t91 : (0) = (0) := (i_eq (show (0 : Int32).toInt = 0 from rfl) (show (0 : Int32).toInt = 0 from rfl)).mp c90) | (have t91 : (0 : Int32).toInt = (0 : Int32).toInt := (i_eq rfl rfl).mp c90) | skip
              refine ⟨fun c92 => ?_, fun c92 => ?_⟩
              · skip
                first | (have t93 : ¬ (r81.toInt = (0)) := (not_congr (i_eq rfl (show (0 : Int32).toInt = 0 from rfl))).mp c92) | (have t93 : ¬ (r81.toInt = (0 : Int32).toInt) := (not_congr (i_eq rfl rfl)).mp c92) | skip
                refine ⟨(not_congr (i_eq rfl (show (0 : Int32).toInt = 0 from rfl))).mpr (by omega), ?_⟩
                unfold f_X12_product_b87
                exact ih (v2 / r81) I83 L84 w_I83 q_I83   (by omega)  (by omega)
              · skip
                first | (have t94 : r81.toInt = (0) := (i_eq rfl (show (0 : Int32).toInt = 0 from rfl)).mp c92) | (have t94 : r81.toInt = (0 : Int32).toInt := (i_eq rfl rfl).mp c92) | skip
                unfold f_X12_product_b87
                have t95 : (0 : Int32).toInt = 0 := rfl
                exact ih (0 : Int32) I83 L84 w_I83 q_I83   (by omega)  (by omega)
            · skip
              first | (have t96 : ¬ ((0) = (0)) := (not_congr (i_eq (show (0 : Int32).toInt = 0 from rfl) (show (0 : Int32).toInt = 0 from rfl))).mp c90) | (have t96 : ¬ ((0 : Int32).toInt = (0 : Int32).toInt) := (not_congr (i_eq rfl rfl)).mp c90) | skip
              unfold f_X12_product_b87
              exact ih (v2 * r81) I83 L84 w_I83 q_I83   (by omega)  (by omega)
          · skip
            first | (have t97 : r69.toInt = (42) := (i_eq rfl (show (42 : Int32).toInt = 42 from rfl)).mp c71) | (have t97 : r69.toInt = (42 : Int32).toInt := (i_eq rfl rfl).mp c71) | skip
            unfold f_X12_product_b45
            intro I98 eI98
            try (have t99 : ((I v0 26) + (1 : Int32)).toInt = ((I v0 26).toInt + (1)) := (i_add rfl (show (1 : Int32).toInt = 1 from rfl) (by omega) (by omega)))
            have w_I98 : WD Z I98 := by rw [eI98]; exact WD_putF w_I 12 26 kv0 (by decide) (by decide) trivial
            have f_I98 : FR [(12, 26)] Z I Z I98 := by rw [eI98]; exact FR_putF kv0 (by decide) List.mem_cons_self
            have q_I98 : FR Ws_R12 Z I0 Z I98 := q_I.trans w0.1 w0.2.1 (f_I98.mono (by decide))
            have u100 : (I98 v0 31).toInt = (I v0 31).toInt := by rw [f_I98.2.2.1 v0 12 31 kv0 (by decide) (by decide)]
            have u101 : (I98 v0 32).toInt = (I v0 32).toInt := by rw [f_I98.2.2.1 v0 12 32 kv0 (by decide) (by decide)]
            have u102 : (I98 v0 24).toInt = (I v0 24).toInt := by rw [f_I98.2.2.1 v0 12 24 kv0 (by decide) (by decide)]
            have u103 : (I98 v0 25).toInt = (I v0 25).toInt := by rw [f_I98.2.2.1 v0 12 25 kv0 (by decide) (by decide)]
            have u104 : (I98 v0 27).toInt = (I v0 27).toInt := by rw [f_I98.2.2.1 v0 12 27 kv0 (by decide) (by decide)]
            first | (have u105 : (I98 v0 26).toInt = ((I v0 26).toInt + (1)) := by (rw [eI98, show jpI I v0 26 ((I v0 26) + (1 : Int32)) v0 26 = ((I v0 26) + (1 : Int32)) from jpI_at] <;> exact (i_add rfl (show (1 : Int32).toInt = 1 from rfl) (by omega) (by omega)))) | skip
            refine hF 3 (by decide) Z I98 L w_I98 v0 v1 kv0 uR huR kuR (by omega) (by omega) (by omega) (by omega) _ (fun r106 I108 L109 w_I108 f_I108 p110 => ?_)
            have q_I108 : FR Ws_R12 Z I0 Z I108 := q_I98.trans w0.1 w0.2.1 (f_I108.mono (by decide))
            have u111 : (I108 v0 31).toInt = (I98 v0 31).toInt := by rw [f_I108.2.2.1 v0 12 31 kv0 (by decide) (by decide)]
            have u112 : (I108 v0 32).toInt = (I98 v0 32).toInt := by rw [f_I108.2.2.1 v0 12 32 kv0 (by decide) (by decide)]
            have u113 : (I108 v0 24).toInt = (I98 v0 24).toInt := by rw [f_I108.2.2.1 v0 12 24 kv0 (by decide) (by decide)]
            have u114 : (I108 v0 25).toInt = (I98 v0 25).toInt := by rw [f_I108.2.2.1 v0 12 25 kv0 (by decide) (by decide)]
            have rr106 := i_rng r106
            refine ⟨fun c115 => ?_, fun c115 => ?_⟩
            · skip
              first | (have t116 : (1) = (0) := (i_eq (show (1 : Int32).toInt = 1 from rfl) (show (0 : Int32).toInt = 0 from rfl)).mp c115) | (have t116 : (1 : Int32).toInt = (0 : Int32).toInt := (i_eq rfl rfl).mp c115) | skip
              refine ⟨fun c117 => ?_, fun c117 => ?_⟩
              · skip
                first | (have t118 : ¬ (r106.toInt = (0)) := (not_congr (i_eq rfl (show (0 : Int32).toInt = 0 from rfl))).mp c117) | (have t118 : ¬ (r106.toInt = (0 : Int32).toInt) := (not_congr (i_eq rfl rfl)).mp c117) | skip
                refine ⟨(not_congr (i_eq rfl (show (0 : Int32).toInt = 0 from rfl))).mpr (by omega), ?_⟩
                unfold f_X12_product_b87
                exact ih (v2 / r106) I108 L109 w_I108 q_I108   (by omega)  (by omega)
              · skip
                first | (have t119 : r106.toInt = (0) := (i_eq rfl (show (0 : Int32).toInt = 0 from rfl)).mp c117) | (have t119 : r106.toInt = (0 : Int32).toInt := (i_eq rfl rfl).mp c117) | skip
                unfold f_X12_product_b87
                have t120 : (0 : Int32).toInt = 0 := rfl
                exact ih (0 : Int32) I108 L109 w_I108 q_I108   (by omega)  (by omega)
            · skip
              first | (have t121 : ¬ ((1) = (0)) := (not_congr (i_eq (show (1 : Int32).toInt = 1 from rfl) (show (0 : Int32).toInt = 0 from rfl))).mp c115) | (have t121 : ¬ ((1 : Int32).toInt = (0 : Int32).toInt) := (not_congr (i_eq rfl rfl)).mp c115) | skip
              unfold f_X12_product_b87
              exact ih (v2 * r106) I108 L109 w_I108 q_I108   (by omega)  (by omega)
set_option maxHeartbeats 4000000 in
set_option maxRecDepth 100000 in
theorem s_X12_product {d : Nat} {F : FTR12} (hF : HS12 d F) {Z : jZ} {I : jI} {L : jL} (w_I : WD Z I) (v0 : Nat) (v1 : Int32) (kv0 : jk Z v0 12) (uR : Nat) (huR : jr Z v0 23 = some uR) (kuR : jk Z uR 13) (p0 : 0 ≤ (I v0 26).toInt ∧ (I v0 26).toInt ≤ (I v0 24).toInt ∧ (I v0 26).toInt ≤ (I v0 25).toInt ∧ (I v0 24).toInt ≤ (jlen Z uR : Int) ∧ jlen Z uR ≤ 80) (p1 : ((I v0 31).toInt = -1 ∨ (0 ≤ (I v0 31).toInt ∧ (I v0 31).toInt ≤ 23 ∧ (I v0 32).toInt ≤ 23))) (p2 : 0 ≤ v1.toInt ∧ v1.toInt ≤ 4) (p3 : (I v0 25).toInt - (I v0 26).toInt + 4 * (4 - v1.toInt) + 4 - 2 ≤ (d : Int) + 1) {Q : Int32 → jI → jL → Prop} (hQ : ∀ (r : Int32) (I' : jI) (L' : jL), WD Z I' → FR Ws_R12 Z I Z I' → ((I v0 26).toInt ≤ (I' v0 26).toInt ∧ (I' v0 26).toInt ≤ (I v0 24).toInt ∧ (I' v0 26).toInt ≤ (I v0 25).toInt ∧ (¬ (I v0 27).toInt = -1 → ¬ (I' v0 27).toInt = -1)) → Q r I' L') : f_X12_product F v0 v1 Z I L Q := by
  unfold f_X12_product
  have q_I : FR Ws_R12 Z I Z I := FR.rf
  have rv1 := i_rng v1
  refine hF 3 (by decide) Z I L w_I v0 v1 kv0 uR huR kuR (by omega) (by omega) (by omega) (by omega) _ (fun r122 I124 L125 w_I124 f_I124 p126 => ?_)
  have q_I124 : FR Ws_R12 Z I Z I124 := q_I.trans w_I.1 w_I.2.1 (f_I124.mono (by decide))
  have u127 : (I124 v0 31).toInt = (I v0 31).toInt := by rw [f_I124.2.2.1 v0 12 31 kv0 (by decide) (by decide)]
  have u128 : (I124 v0 32).toInt = (I v0 32).toInt := by rw [f_I124.2.2.1 v0 12 32 kv0 (by decide) (by decide)]
  have u129 : (I124 v0 24).toInt = (I v0 24).toInt := by rw [f_I124.2.2.1 v0 12 24 kv0 (by decide) (by decide)]
  have u130 : (I124 v0 25).toInt = (I v0 25).toInt := by rw [f_I124.2.2.1 v0 12 25 kv0 (by decide) (by decide)]
  have rr122 := i_rng r122
  exact ⟨((I124 v0 25).toInt - (I124 v0 26).toInt).toNat + 1, l_X12_product_L6 hF w_I v0 v1 kv0 uR huR kuR p0 p1 p2 p3   hQ   _ r122 I124 L125 w_I124 q_I124   (by omega)  (by omega)⟩
set_option maxHeartbeats 4000000 in
set_option maxRecDepth 100000 in
theorem l_X12_sum_L6 {d : Nat} {F : FTR12} (hF : HS12 d F) {Z : jZ} {I0 : jI} {Q : Int32 → jI → jL → Prop} (w0 : WD Z I0) (v0 : Nat) (v1 : Int32) (kv0 : jk Z v0 12) (uR : Nat) (huR : jr Z v0 23 = some uR) (kuR : jk Z uR 13) (p0 : 0 ≤ (I0 v0 26).toInt ∧ (I0 v0 26).toInt ≤ (I0 v0 24).toInt ∧ (I0 v0 26).toInt ≤ (I0 v0 25).toInt ∧ (I0 v0 24).toInt ≤ (jlen Z uR : Int) ∧ jlen Z uR ≤ 80) (p1 : ((I0 v0 31).toInt = -1 ∨ (0 ≤ (I0 v0 31).toInt ∧ (I0 v0 31).toInt ≤ 23 ∧ (I0 v0 32).toInt ≤ 23))) (p2 : 0 ≤ v1.toInt ∧ v1.toInt ≤ 4) (p3 : (I0 v0 25).toInt - (I0 v0 26).toInt + 4 * (4 - v1.toInt) + 4 - 1 ≤ (d : Int) + 1) (hQ : ∀ (r : Int32) (I' : jI) (L' : jL), WD Z I' → FR Ws_R12 Z I0 Z I' → ((I0 v0 26).toInt ≤ (I' v0 26).toInt ∧ (I' v0 26).toInt ≤ (I0 v0 24).toInt ∧ (I' v0 26).toInt ≤ (I0 v0 25).toInt ∧ (¬ (I0 v0 27).toInt = -1 → ¬ (I' v0 27).toInt = -1)) → Q r I' L') : ∀ (n : Nat) (v2 : Int32) (I : jI) (L : jL), WD Z I → FR Ws_R12 Z I0 Z I →   (0 ≤ (I v0 26).toInt ∧ (I v0 26).toInt ≤ (I v0 24).toInt ∧ (I v0 26).toInt ≤ (I v0 25).toInt ∧ (I v0 24).toInt ≤ (jlen Z uR : Int) ∧ jlen Z uR ≤ 80 ∧ ((I v0 31).toInt = -1 ∨ (0 ≤ (I v0 31).toInt ∧ (I v0 31).toInt ≤ 23 ∧ (I v0 32).toInt ≤ 23)) ∧ (I0 v0 26).toInt ≤ (I v0 26).toInt ∧ (I v0 24).toInt = (I0 v0 24).toInt ∧ (I v0 25).toInt = (I0 v0 25).toInt ∧ (¬ (I0 v0 27).toInt = -1 → ¬ (I v0 27).toInt = -1)) → (I v0 25).toInt - (I v0 26).toInt < (n : Int) → f_X12_sum_L6 F  Z Q n v0 v1 v2 I L := by
  intro n
  induction n with
  | zero =>
    intro v2 I L w_I q_I   li  me
    exfalso
    omega
  | succ n ih =>
    intro v2 I L w_I q_I   li  me
    unfold f_X12_sum_L6
    have rv2 := i_rng v2
    have rv1 := i_rng v1
    refine s_X12_fine w_I v0 kv0   (fun r1 p2 => ?_)
    have rr1 := i_rng r1
    refine ⟨fun c3 => ?_, fun c3 => ?_⟩
    · skip
      first | (have t4 : r1.toInt = (0) := (i_eq rfl (show (0 : Int32).toInt = 0 from rfl)).mp c3) | (have t4 : r1.toInt = (0 : Int32).toInt := (i_eq rfl rfl).mp c3) | skip
      exact hQ v2 I L w_I q_I (by omega)
    · skip
      first | (have t5 : ¬ (r1.toInt = (0)) := (not_congr (i_eq rfl (show (0 : Int32).toInt = 0 from rfl))).mp c3) | (have t5 : ¬ (r1.toInt = (0 : Int32).toInt) := (not_congr (i_eq rfl rfl)).mp c3) | skip
      refine s_X12_here w_I v0 kv0 uR huR kuR (by omega) (fun r6 p7 => ?_)
      have rr6 := i_rng r6
      refine ⟨fun c8 => ?_, fun c8 => ?_⟩
      · skip
        first | (have t9 : r6.toInt = (43) := (i_eq rfl (show (43 : Int32).toInt = 43 from rfl)).mp c8) | (have t9 : r6.toInt = (43 : Int32).toInt := (i_eq rfl rfl).mp c8) | skip
        unfold f_X12_sum_b31
        refine s_X12_here w_I v0 kv0 uR huR kuR (by omega) (fun r10 p11 => ?_)
        have rr10 := i_rng r10
        refine ⟨fun c12 => ?_, fun c12 => ?_⟩
        · skip
          first | (have t13 : ¬ (r10.toInt = (43)) := (not_congr (i_eq rfl (show (43 : Int32).toInt = 43 from rfl))).mp c12) | (have t13 : ¬ (r10.toInt = (43 : Int32).toInt) := (not_congr (i_eq rfl rfl)).mp c12) | skip
          unfold f_X12_sum_b45
          intro I14 eI14
          try (have t15 : ((I v0 26) + (1 : Int32)).toInt = ((I v0 26).toInt + (1)) := (i_add rfl (show (1 : Int32).toInt = 1 from rfl) (by omega) (by omega)))
          have w_I14 : WD Z I14 := by rw [eI14]; exact WD_putF w_I 12 26 kv0 (by decide) (by decide) trivial
          have f_I14 : FR [(12, 26)] Z I Z I14 := by rw [eI14]; exact FR_putF kv0 (by decide) List.mem_cons_self
          have q_I14 : FR Ws_R12 Z I0 Z I14 := q_I.trans w0.1 w0.2.1 (f_I14.mono (by decide))
          have u16 : (I14 v0 31).toInt = (I v0 31).toInt := by rw [f_I14.2.2.1 v0 12 31 kv0 (by decide) (by decide)]
          have u17 : (I14 v0 32).toInt = (I v0 32).toInt := by rw [f_I14.2.2.1 v0 12 32 kv0 (by decide) (by decide)]
          have u18 : (I14 v0 24).toInt = (I v0 24).toInt := by rw [f_I14.2.2.1 v0 12 24 kv0 (by decide) (by decide)]
          have u19 : (I14 v0 25).toInt = (I v0 25).toInt := by rw [f_I14.2.2.1 v0 12 25 kv0 (by decide) (by decide)]
          have u20 : (I14 v0 27).toInt = (I v0 27).toInt := by rw [f_I14.2.2.1 v0 12 27 kv0 (by decide) (by decide)]
          first | (have u21 : (I14 v0 26).toInt = ((I v0 26).toInt + (1)) := by (rw [eI14, show jpI I v0 26 ((I v0 26) + (1 : Int32)) v0 26 = ((I v0 26) + (1 : Int32)) from jpI_at] <;> exact (i_add rfl (show (1 : Int32).toInt = 1 from rfl) (by omega) (by omega)))) | skip
          refine hF 2 (by decide) Z I14 L w_I14 v0 v1 kv0 uR huR kuR (by omega) (by omega) (by omega) (by omega) _ (fun r22 I24 L25 w_I24 f_I24 p26 => ?_)
          have q_I24 : FR Ws_R12 Z I0 Z I24 := q_I14.trans w0.1 w0.2.1 (f_I24.mono (by decide))
          have u27 : (I24 v0 31).toInt = (I14 v0 31).toInt := by rw [f_I24.2.2.1 v0 12 31 kv0 (by decide) (by decide)]
          have u28 : (I24 v0 32).toInt = (I14 v0 32).toInt := by rw [f_I24.2.2.1 v0 12 32 kv0 (by decide) (by decide)]
          have u29 : (I24 v0 24).toInt = (I14 v0 24).toInt := by rw [f_I24.2.2.1 v0 12 24 kv0 (by decide) (by decide)]
          have u30 : (I24 v0 25).toInt = (I14 v0 25).toInt := by rw [f_I24.2.2.1 v0 12 25 kv0 (by decide) (by decide)]
          have rr22 := i_rng r22
          refine ⟨fun c31 => ?_, fun c31 => ?_⟩
          · skip
            first | (have t32 : (0) = (0) := (i_eq (show (0 : Int32).toInt = 0 from rfl) (show (0 : Int32).toInt = 0 from rfl)).mp c31) | (have t32 : (0 : Int32).toInt = (0 : Int32).toInt := (i_eq rfl rfl).mp c31) | skip
            unfold f_X12_sum_b78
            try (have t33 : (v2 - r22).toInt = (v2.toInt - r22.toInt) := (i_sub rfl rfl (by omega) (by omega)))
            exact ih (v2 - r22) I24 L25 w_I24 q_I24   (by omega)  (by omega)
          · skip
            first | (have t34 : ¬ ((0) = (0)) := (not_congr (i_eq (show (0 : Int32).toInt = 0 from rfl) (show (0 : Int32).toInt = 0 from rfl))).mp c31) | (have t34 : ¬ ((0 : Int32).toInt = (0 : Int32).toInt) := (not_congr (i_eq rfl rfl)).mp c31) | skip
            unfold f_X12_sum_b78
            try (have t35 : (v2 + r22).toInt = (v2.toInt + r22.toInt) := (i_add rfl rfl (by omega) (by omega)))
            exact ih (v2 + r22) I24 L25 w_I24 q_I24   (by omega)  (by omega)
        · skip
          first | (have t36 : r10.toInt = (43) := (i_eq rfl (show (43 : Int32).toInt = 43 from rfl)).mp c12) | (have t36 : r10.toInt = (43 : Int32).toInt := (i_eq rfl rfl).mp c12) | skip
          unfold f_X12_sum_b45
          intro I37 eI37
          try (have t38 : ((I v0 26) + (1 : Int32)).toInt = ((I v0 26).toInt + (1)) := (i_add rfl (show (1 : Int32).toInt = 1 from rfl) (by omega) (by omega)))
          have w_I37 : WD Z I37 := by rw [eI37]; exact WD_putF w_I 12 26 kv0 (by decide) (by decide) trivial
          have f_I37 : FR [(12, 26)] Z I Z I37 := by rw [eI37]; exact FR_putF kv0 (by decide) List.mem_cons_self
          have q_I37 : FR Ws_R12 Z I0 Z I37 := q_I.trans w0.1 w0.2.1 (f_I37.mono (by decide))
          have u39 : (I37 v0 31).toInt = (I v0 31).toInt := by rw [f_I37.2.2.1 v0 12 31 kv0 (by decide) (by decide)]
          have u40 : (I37 v0 32).toInt = (I v0 32).toInt := by rw [f_I37.2.2.1 v0 12 32 kv0 (by decide) (by decide)]
          have u41 : (I37 v0 24).toInt = (I v0 24).toInt := by rw [f_I37.2.2.1 v0 12 24 kv0 (by decide) (by decide)]
          have u42 : (I37 v0 25).toInt = (I v0 25).toInt := by rw [f_I37.2.2.1 v0 12 25 kv0 (by decide) (by decide)]
          have u43 : (I37 v0 27).toInt = (I v0 27).toInt := by rw [f_I37.2.2.1 v0 12 27 kv0 (by decide) (by decide)]
          first | (have u44 : (I37 v0 26).toInt = ((I v0 26).toInt + (1)) := by (rw [eI37, show jpI I v0 26 ((I v0 26) + (1 : Int32)) v0 26 = ((I v0 26) + (1 : Int32)) from jpI_at] <;> exact (i_add rfl (show (1 : Int32).toInt = 1 from rfl) (by omega) (by omega)))) | skip
          refine hF 2 (by decide) Z I37 L w_I37 v0 v1 kv0 uR huR kuR (by omega) (by omega) (by omega) (by omega) _ (fun r45 I47 L48 w_I47 f_I47 p49 => ?_)
          have q_I47 : FR Ws_R12 Z I0 Z I47 := q_I37.trans w0.1 w0.2.1 (f_I47.mono (by decide))
          have u50 : (I47 v0 31).toInt = (I37 v0 31).toInt := by rw [f_I47.2.2.1 v0 12 31 kv0 (by decide) (by decide)]
          have u51 : (I47 v0 32).toInt = (I37 v0 32).toInt := by rw [f_I47.2.2.1 v0 12 32 kv0 (by decide) (by decide)]
          have u52 : (I47 v0 24).toInt = (I37 v0 24).toInt := by rw [f_I47.2.2.1 v0 12 24 kv0 (by decide) (by decide)]
          have u53 : (I47 v0 25).toInt = (I37 v0 25).toInt := by rw [f_I47.2.2.1 v0 12 25 kv0 (by decide) (by decide)]
          have rr45 := i_rng r45
          refine ⟨fun c54 => ?_, fun c54 => ?_⟩
          · skip
            first | (have t55 : (1) = (0) := (i_eq (show (1 : Int32).toInt = 1 from rfl) (show (0 : Int32).toInt = 0 from rfl)).mp c54) | (have t55 : (1 : Int32).toInt = (0 : Int32).toInt := (i_eq rfl rfl).mp c54) | skip
            unfold f_X12_sum_b78
            try (have t56 : (v2 - r45).toInt = (v2.toInt - r45.toInt) := (i_sub rfl rfl (by omega) (by omega)))
            exact ih (v2 - r45) I47 L48 w_I47 q_I47   (by omega)  (by omega)
          · skip
            first | (have t57 : ¬ ((1) = (0)) := (not_congr (i_eq (show (1 : Int32).toInt = 1 from rfl) (show (0 : Int32).toInt = 0 from rfl))).mp c54) | (have t57 : ¬ ((1 : Int32).toInt = (0 : Int32).toInt) := (not_congr (i_eq rfl rfl)).mp c54) | skip
            unfold f_X12_sum_b78
            try (have t58 : (v2 + r45).toInt = (v2.toInt + r45.toInt) := (i_add rfl rfl (by omega) (by omega)))
            exact ih (v2 + r45) I47 L48 w_I47 q_I47   (by omega)  (by omega)
      · skip
        first | (have t59 : ¬ (r6.toInt = (43)) := (not_congr (i_eq rfl (show (43 : Int32).toInt = 43 from rfl))).mp c8) | (have t59 : ¬ (r6.toInt = (43 : Int32).toInt) := (not_congr (i_eq rfl rfl)).mp c8) | skip
        refine s_X12_here w_I v0 kv0 uR huR kuR (by omega) (fun r60 p61 => ?_)
        have rr60 := i_rng r60
        refine ⟨fun c62 => ?_, fun c62 => ?_⟩
        · skip
          first | (have t63 : ¬ (r60.toInt = (45)) := (not_congr (i_eq rfl (show (45 : Int32).toInt = 45 from rfl))).mp c62) | (have t63 : ¬ (r60.toInt = (45 : Int32).toInt) := (not_congr (i_eq rfl rfl)).mp c62) | skip
          exact hQ v2 I L w_I q_I (by omega)
        · skip
          first | (have t64 : r60.toInt = (45) := (i_eq rfl (show (45 : Int32).toInt = 45 from rfl)).mp c62) | (have t64 : r60.toInt = (45 : Int32).toInt := (i_eq rfl rfl).mp c62) | skip
          unfold f_X12_sum_b31
          refine s_X12_here w_I v0 kv0 uR huR kuR (by omega) (fun r65 p66 => ?_)
          have rr65 := i_rng r65
          refine ⟨fun c67 => ?_, fun c67 => ?_⟩
          · skip
            first | (have t68 : ¬ (r65.toInt = (43)) := (not_congr (i_eq rfl (show (43 : Int32).toInt = 43 from rfl))).mp c67) | (have t68 : ¬ (r65.toInt = (43 : Int32).toInt) := (not_congr (i_eq rfl rfl)).mp c67) | skip
            unfold f_X12_sum_b45
            intro I69 eI69
            try (have t70 : ((I v0 26) + (1 : Int32)).toInt = ((I v0 26).toInt + (1)) := (i_add rfl (show (1 : Int32).toInt = 1 from rfl) (by omega) (by omega)))
            have w_I69 : WD Z I69 := by rw [eI69]; exact WD_putF w_I 12 26 kv0 (by decide) (by decide) trivial
            have f_I69 : FR [(12, 26)] Z I Z I69 := by rw [eI69]; exact FR_putF kv0 (by decide) List.mem_cons_self
            have q_I69 : FR Ws_R12 Z I0 Z I69 := q_I.trans w0.1 w0.2.1 (f_I69.mono (by decide))
            have u71 : (I69 v0 31).toInt = (I v0 31).toInt := by rw [f_I69.2.2.1 v0 12 31 kv0 (by decide) (by decide)]
            have u72 : (I69 v0 32).toInt = (I v0 32).toInt := by rw [f_I69.2.2.1 v0 12 32 kv0 (by decide) (by decide)]
            have u73 : (I69 v0 24).toInt = (I v0 24).toInt := by rw [f_I69.2.2.1 v0 12 24 kv0 (by decide) (by decide)]
            have u74 : (I69 v0 25).toInt = (I v0 25).toInt := by rw [f_I69.2.2.1 v0 12 25 kv0 (by decide) (by decide)]
            have u75 : (I69 v0 27).toInt = (I v0 27).toInt := by rw [f_I69.2.2.1 v0 12 27 kv0 (by decide) (by decide)]
            first | (have u76 : (I69 v0 26).toInt = ((I v0 26).toInt + (1)) := by (rw [eI69, show jpI I v0 26 ((I v0 26) + (1 : Int32)) v0 26 = ((I v0 26) + (1 : Int32)) from jpI_at] <;> exact (i_add rfl (show (1 : Int32).toInt = 1 from rfl) (by omega) (by omega)))) | skip
            refine hF 2 (by decide) Z I69 L w_I69 v0 v1 kv0 uR huR kuR (by omega) (by omega) (by omega) (by omega) _ (fun r77 I79 L80 w_I79 f_I79 p81 => ?_)
            have q_I79 : FR Ws_R12 Z I0 Z I79 := q_I69.trans w0.1 w0.2.1 (f_I79.mono (by decide))
            have u82 : (I79 v0 31).toInt = (I69 v0 31).toInt := by rw [f_I79.2.2.1 v0 12 31 kv0 (by decide) (by decide)]
            have u83 : (I79 v0 32).toInt = (I69 v0 32).toInt := by rw [f_I79.2.2.1 v0 12 32 kv0 (by decide) (by decide)]
            have u84 : (I79 v0 24).toInt = (I69 v0 24).toInt := by rw [f_I79.2.2.1 v0 12 24 kv0 (by decide) (by decide)]
            have u85 : (I79 v0 25).toInt = (I69 v0 25).toInt := by rw [f_I79.2.2.1 v0 12 25 kv0 (by decide) (by decide)]
            have rr77 := i_rng r77
            refine ⟨fun c86 => ?_, fun c86 => ?_⟩
            · skip
              first | (have t87 : (0) = (0) := (i_eq (show (0 : Int32).toInt = 0 from rfl) (show (0 : Int32).toInt = 0 from rfl)).mp c86) | (have t87 : (0 : Int32).toInt = (0 : Int32).toInt := (i_eq rfl rfl).mp c86) | skip
              unfold f_X12_sum_b78
              try (have t88 : (v2 - r77).toInt = (v2.toInt - r77.toInt) := (i_sub rfl rfl (by omega) (by omega)))
              exact ih (v2 - r77) I79 L80 w_I79 q_I79   (by omega)  (by omega)
            · skip
              first | (have t89 : ¬ ((0) = (0)) := (not_congr (i_eq (show (0 : Int32).toInt = 0 from rfl) (show (0 : Int32).toInt = 0 from rfl))).mp c86) | (have t89 : ¬ ((0 : Int32).toInt = (0 : Int32).toInt) := (not_congr (i_eq rfl rfl)).mp c86) | skip
              unfold f_X12_sum_b78
              try (have t90 : (v2 + r77).toInt = (v2.toInt + r77.toInt) := (i_add rfl rfl (by omega) (by omega)))
              exact ih (v2 + r77) I79 L80 w_I79 q_I79   (by omega)  (by omega)
          · skip
            first | (have t91 : r65.toInt = (43) := (i_eq rfl (show (43 : Int32).toInt = 43 from rfl)).mp c67) | (have t91 : r65.toInt = (43 : Int32).toInt := (i_eq rfl rfl).mp c67) | skip
            unfold f_X12_sum_b45
            intro I92 eI92
            try (have t93 : ((I v0 26) + (1 : Int32)).toInt = ((I v0 26).toInt + (1)) := (i_add rfl (show (1 : Int32).toInt = 1 from rfl) (by omega) (by omega)))
            have w_I92 : WD Z I92 := by rw [eI92]; exact WD_putF w_I 12 26 kv0 (by decide) (by decide) trivial
            have f_I92 : FR [(12, 26)] Z I Z I92 := by rw [eI92]; exact FR_putF kv0 (by decide) List.mem_cons_self
            have q_I92 : FR Ws_R12 Z I0 Z I92 := q_I.trans w0.1 w0.2.1 (f_I92.mono (by decide))
            have u94 : (I92 v0 31).toInt = (I v0 31).toInt := by rw [f_I92.2.2.1 v0 12 31 kv0 (by decide) (by decide)]
            have u95 : (I92 v0 32).toInt = (I v0 32).toInt := by rw [f_I92.2.2.1 v0 12 32 kv0 (by decide) (by decide)]
            have u96 : (I92 v0 24).toInt = (I v0 24).toInt := by rw [f_I92.2.2.1 v0 12 24 kv0 (by decide) (by decide)]
            have u97 : (I92 v0 25).toInt = (I v0 25).toInt := by rw [f_I92.2.2.1 v0 12 25 kv0 (by decide) (by decide)]
            have u98 : (I92 v0 27).toInt = (I v0 27).toInt := by rw [f_I92.2.2.1 v0 12 27 kv0 (by decide) (by decide)]
            first | (have u99 : (I92 v0 26).toInt = ((I v0 26).toInt + (1)) := by (rw [eI92, show jpI I v0 26 ((I v0 26) + (1 : Int32)) v0 26 = ((I v0 26) + (1 : Int32)) from jpI_at] <;> exact (i_add rfl (show (1 : Int32).toInt = 1 from rfl) (by omega) (by omega)))) | skip
            refine hF 2 (by decide) Z I92 L w_I92 v0 v1 kv0 uR huR kuR (by omega) (by omega) (by omega) (by omega) _ (fun r100 I102 L103 w_I102 f_I102 p104 => ?_)
            have q_I102 : FR Ws_R12 Z I0 Z I102 := q_I92.trans w0.1 w0.2.1 (f_I102.mono (by decide))
            have u105 : (I102 v0 31).toInt = (I92 v0 31).toInt := by rw [f_I102.2.2.1 v0 12 31 kv0 (by decide) (by decide)]
            have u106 : (I102 v0 32).toInt = (I92 v0 32).toInt := by rw [f_I102.2.2.1 v0 12 32 kv0 (by decide) (by decide)]
            have u107 : (I102 v0 24).toInt = (I92 v0 24).toInt := by rw [f_I102.2.2.1 v0 12 24 kv0 (by decide) (by decide)]
            have u108 : (I102 v0 25).toInt = (I92 v0 25).toInt := by rw [f_I102.2.2.1 v0 12 25 kv0 (by decide) (by decide)]
            have rr100 := i_rng r100
            refine ⟨fun c109 => ?_, fun c109 => ?_⟩
            · skip
              first | (have t110 : (1) = (0) := (i_eq (show (1 : Int32).toInt = 1 from rfl) (show (0 : Int32).toInt = 0 from rfl)).mp c109) | (have t110 : (1 : Int32).toInt = (0 : Int32).toInt := (i_eq rfl rfl).mp c109) | skip
              unfold f_X12_sum_b78
              try (have t111 : (v2 - r100).toInt = (v2.toInt - r100.toInt) := (i_sub rfl rfl (by omega) (by omega)))
              exact ih (v2 - r100) I102 L103 w_I102 q_I102   (by omega)  (by omega)
            · skip
              first | (have t112 : ¬ ((1) = (0)) := (not_congr (i_eq (show (1 : Int32).toInt = 1 from rfl) (show (0 : Int32).toInt = 0 from rfl))).mp c109) | (have t112 : ¬ ((1 : Int32).toInt = (0 : Int32).toInt) := (not_congr (i_eq rfl rfl)).mp c109) | skip
              unfold f_X12_sum_b78
              try (have t113 : (v2 + r100).toInt = (v2.toInt + r100.toInt) := (i_add rfl rfl (by omega) (by omega)))
              exact ih (v2 + r100) I102 L103 w_I102 q_I102   (by omega)  (by omega)
set_option maxHeartbeats 4000000 in
set_option maxRecDepth 100000 in
theorem s_X12_sum {d : Nat} {F : FTR12} (hF : HS12 d F) {Z : jZ} {I : jI} {L : jL} (w_I : WD Z I) (v0 : Nat) (v1 : Int32) (kv0 : jk Z v0 12) (uR : Nat) (huR : jr Z v0 23 = some uR) (kuR : jk Z uR 13) (p0 : 0 ≤ (I v0 26).toInt ∧ (I v0 26).toInt ≤ (I v0 24).toInt ∧ (I v0 26).toInt ≤ (I v0 25).toInt ∧ (I v0 24).toInt ≤ (jlen Z uR : Int) ∧ jlen Z uR ≤ 80) (p1 : ((I v0 31).toInt = -1 ∨ (0 ≤ (I v0 31).toInt ∧ (I v0 31).toInt ≤ 23 ∧ (I v0 32).toInt ≤ 23))) (p2 : 0 ≤ v1.toInt ∧ v1.toInt ≤ 4) (p3 : (I v0 25).toInt - (I v0 26).toInt + 4 * (4 - v1.toInt) + 4 - 1 ≤ (d : Int) + 1) {Q : Int32 → jI → jL → Prop} (hQ : ∀ (r : Int32) (I' : jI) (L' : jL), WD Z I' → FR Ws_R12 Z I Z I' → ((I v0 26).toInt ≤ (I' v0 26).toInt ∧ (I' v0 26).toInt ≤ (I v0 24).toInt ∧ (I' v0 26).toInt ≤ (I v0 25).toInt ∧ (¬ (I v0 27).toInt = -1 → ¬ (I' v0 27).toInt = -1)) → Q r I' L') : f_X12_sum F v0 v1 Z I L Q := by
  unfold f_X12_sum
  have q_I : FR Ws_R12 Z I Z I := FR.rf
  have rv1 := i_rng v1
  refine hF 2 (by decide) Z I L w_I v0 v1 kv0 uR huR kuR (by omega) (by omega) (by omega) (by omega) _ (fun r114 I116 L117 w_I116 f_I116 p118 => ?_)
  have q_I116 : FR Ws_R12 Z I Z I116 := q_I.trans w_I.1 w_I.2.1 (f_I116.mono (by decide))
  have u119 : (I116 v0 31).toInt = (I v0 31).toInt := by rw [f_I116.2.2.1 v0 12 31 kv0 (by decide) (by decide)]
  have u120 : (I116 v0 32).toInt = (I v0 32).toInt := by rw [f_I116.2.2.1 v0 12 32 kv0 (by decide) (by decide)]
  have u121 : (I116 v0 24).toInt = (I v0 24).toInt := by rw [f_I116.2.2.1 v0 12 24 kv0 (by decide) (by decide)]
  have u122 : (I116 v0 25).toInt = (I v0 25).toInt := by rw [f_I116.2.2.1 v0 12 25 kv0 (by decide) (by decide)]
  have rr114 := i_rng r114
  exact ⟨((I116 v0 25).toInt - (I116 v0 26).toInt).toNat + 1, l_X12_sum_L6 hF w_I v0 v1 kv0 uR huR kuR p0 p1 p2 p3   hQ   _ r114 I116 L117 w_I116 q_I116   (by omega)  (by omega)⟩
set_option maxHeartbeats 4000000 in
set_option maxRecDepth 100000 in
theorem s_X12_held {d : Nat} {F : FTR12} (hF : HS12 d F) {Z : jZ} {I : jI} {L : jL} (w_I : WD Z I) (v0 : Nat) (v1 : Int32) (kv0 : jk Z v0 12) (uR : Nat) (huR : jr Z v0 23 = some uR) (kuR : jk Z uR 13) (p0 : 0 ≤ (I v0 26).toInt ∧ (I v0 26).toInt ≤ (I v0 24).toInt ∧ (I v0 26).toInt ≤ (I v0 25).toInt ∧ (I v0 24).toInt ≤ (jlen Z uR : Int) ∧ jlen Z uR ≤ 80) (p1 : ((I v0 31).toInt = -1 ∨ (0 ≤ (I v0 31).toInt ∧ (I v0 31).toInt ≤ 23 ∧ (I v0 32).toInt ≤ 23))) (p2 : 0 ≤ v1.toInt ∧ v1.toInt ≤ 4) (p3 : (I v0 25).toInt - (I v0 26).toInt + 4 * (4 - v1.toInt) + 4 - 0 ≤ (d : Int) + 1) {Q : Int32 → jI → jL → Prop} (hQ : ∀ (r : Int32) (I' : jI) (L' : jL), WD Z I' → FR Ws_R12 Z I Z I' → ((I v0 26).toInt ≤ (I' v0 26).toInt ∧ (I' v0 26).toInt ≤ (I v0 24).toInt ∧ (I' v0 26).toInt ≤ (I v0 25).toInt ∧ (¬ (I v0 27).toInt = -1 → ¬ (I' v0 27).toInt = -1)) → Q r I' L') : f_X12_held F v0 v1 Z I L Q := by
  unfold f_X12_held
  have q_I : FR Ws_R12 Z I Z I := FR.rf
  have rv1 := i_rng v1
  refine hF 1 (by decide) Z I L w_I v0 v1 kv0 uR huR kuR (by omega) (by omega) (by omega) (by omega) _ (fun r1 I3 L4 w_I3 f_I3 p5 => ?_)
  have q_I3 : FR Ws_R12 Z I Z I3 := q_I.trans w_I.1 w_I.2.1 (f_I3.mono (by decide))
  have u6 : (I3 v0 31).toInt = (I v0 31).toInt := by rw [f_I3.2.2.1 v0 12 31 kv0 (by decide) (by decide)]
  have u7 : (I3 v0 32).toInt = (I v0 32).toInt := by rw [f_I3.2.2.1 v0 12 32 kv0 (by decide) (by decide)]
  have u8 : (I3 v0 24).toInt = (I v0 24).toInt := by rw [f_I3.2.2.1 v0 12 24 kv0 (by decide) (by decide)]
  have u9 : (I3 v0 25).toInt = (I v0 25).toInt := by rw [f_I3.2.2.1 v0 12 25 kv0 (by decide) (by decide)]
  have rr1 := i_rng r1
  have t10 : (60 : Int32).toInt = 60 := rfl
  refine s_X12_passes w_I3 v0 (60 : Int32) kv0 uR huR kuR (by omega) (by omega) (fun r11 I13 L14 w_I13 f_I13 p12 => ?_)
  have q_I13 : FR Ws_R12 Z I Z I13 := q_I3.trans w_I.1 w_I.2.1 (f_I13.mono (by decide))
  have u15 : (I13 v0 31).toInt = (I3 v0 31).toInt := by rw [f_I13.2.2.1 v0 12 31 kv0 (by decide) (by decide)]
  have u16 : (I13 v0 32).toInt = (I3 v0 32).toInt := by rw [f_I13.2.2.1 v0 12 32 kv0 (by decide) (by decide)]
  have u17 : (I13 v0 24).toInt = (I3 v0 24).toInt := by rw [f_I13.2.2.1 v0 12 24 kv0 (by decide) (by decide)]
  have u18 : (I13 v0 25).toInt = (I3 v0 25).toInt := by rw [f_I13.2.2.1 v0 12 25 kv0 (by decide) (by decide)]
  have u19 : (I13 v0 27).toInt = (I3 v0 27).toInt := by rw [f_I13.2.2.1 v0 12 27 kv0 (by decide) (by decide)]
  have rr11 := i_rng r11
  refine ⟨fun c20 => ?_, fun c20 => ?_⟩
  · skip
    first | (have t21 : r11.toInt = (0) := (i_eq rfl (show (0 : Int32).toInt = 0 from rfl)).mp c20) | (have t21 : r11.toInt = (0 : Int32).toInt := (i_eq rfl rfl).mp c20) | skip
    have t22 : (62 : Int32).toInt = 62 := rfl
    refine s_X12_passes w_I13 v0 (62 : Int32) kv0 uR huR kuR (by omega) (by omega) (fun r23 I25 L26 w_I25 f_I25 p24 => ?_)
    have q_I25 : FR Ws_R12 Z I Z I25 := q_I13.trans w_I.1 w_I.2.1 (f_I25.mono (by decide))
    have u27 : (I25 v0 31).toInt = (I13 v0 31).toInt := by rw [f_I25.2.2.1 v0 12 31 kv0 (by decide) (by decide)]
    have u28 : (I25 v0 32).toInt = (I13 v0 32).toInt := by rw [f_I25.2.2.1 v0 12 32 kv0 (by decide) (by decide)]
    have u29 : (I25 v0 24).toInt = (I13 v0 24).toInt := by rw [f_I25.2.2.1 v0 12 24 kv0 (by decide) (by decide)]
    have u30 : (I25 v0 25).toInt = (I13 v0 25).toInt := by rw [f_I25.2.2.1 v0 12 25 kv0 (by decide) (by decide)]
    have u31 : (I25 v0 27).toInt = (I13 v0 27).toInt := by rw [f_I25.2.2.1 v0 12 27 kv0 (by decide) (by decide)]
    have rr23 := i_rng r23
    refine ⟨fun c32 => ?_, fun c32 => ?_⟩
    · skip
      first | (have t33 : r23.toInt = (0) := (i_eq rfl (show (0 : Int32).toInt = 0 from rfl)).mp c32) | (have t33 : r23.toInt = (0 : Int32).toInt := (i_eq rfl rfl).mp c32) | skip
      have t34 : (61 : Int32).toInt = 61 := rfl
      refine s_X12_passes w_I25 v0 (61 : Int32) kv0 uR huR kuR (by omega) (by omega) (fun r35 I37 L38 w_I37 f_I37 p36 => ?_)
      have q_I37 : FR Ws_R12 Z I Z I37 := q_I25.trans w_I.1 w_I.2.1 (f_I37.mono (by decide))
      have u39 : (I37 v0 31).toInt = (I25 v0 31).toInt := by rw [f_I37.2.2.1 v0 12 31 kv0 (by decide) (by decide)]
      have u40 : (I37 v0 32).toInt = (I25 v0 32).toInt := by rw [f_I37.2.2.1 v0 12 32 kv0 (by decide) (by decide)]
      have u41 : (I37 v0 24).toInt = (I25 v0 24).toInt := by rw [f_I37.2.2.1 v0 12 24 kv0 (by decide) (by decide)]
      have u42 : (I37 v0 25).toInt = (I25 v0 25).toInt := by rw [f_I37.2.2.1 v0 12 25 kv0 (by decide) (by decide)]
      have u43 : (I37 v0 27).toInt = (I25 v0 27).toInt := by rw [f_I37.2.2.1 v0 12 27 kv0 (by decide) (by decide)]
      have rr35 := i_rng r35
      refine ⟨fun c44 => ?_, fun c44 => ?_⟩
      · skip
        first | (have t45 : r35.toInt = (0) := (i_eq rfl (show (0 : Int32).toInt = 0 from rfl)).mp c44) | (have t45 : r35.toInt = (0 : Int32).toInt := (i_eq rfl rfl).mp c44) | skip
        exact hQ r1 I37 L38 w_I37 q_I37 (by omega)
      · skip
        first | (have t46 : ¬ (r35.toInt = (0)) := (not_congr (i_eq rfl (show (0 : Int32).toInt = 0 from rfl))).mp c44) | (have t46 : ¬ (r35.toInt = (0 : Int32).toInt) := (not_congr (i_eq rfl rfl)).mp c44) | skip
        refine hF 1 (by decide) Z I37 L38 w_I37 v0 v1 kv0 uR huR kuR (by omega) (by omega) (by omega) (by omega) _ (fun r47 I49 L50 w_I49 f_I49 p51 => ?_)
        have q_I49 : FR Ws_R12 Z I Z I49 := q_I37.trans w_I.1 w_I.2.1 (f_I49.mono (by decide))
        have u52 : (I49 v0 31).toInt = (I37 v0 31).toInt := by rw [f_I49.2.2.1 v0 12 31 kv0 (by decide) (by decide)]
        have u53 : (I49 v0 32).toInt = (I37 v0 32).toInt := by rw [f_I49.2.2.1 v0 12 32 kv0 (by decide) (by decide)]
        have u54 : (I49 v0 24).toInt = (I37 v0 24).toInt := by rw [f_I49.2.2.1 v0 12 24 kv0 (by decide) (by decide)]
        have u55 : (I49 v0 25).toInt = (I37 v0 25).toInt := by rw [f_I49.2.2.1 v0 12 25 kv0 (by decide) (by decide)]
        have rr47 := i_rng r47
        refine ⟨fun c56 => ?_, fun c56 => ?_⟩
        · skip
          first | (have t57 : ¬ (r1.toInt = r47.toInt) := (not_congr (i_eq rfl rfl)).mp c56) | (have t57 : ¬ (r1.toInt = r47.toInt) := (not_congr (i_eq rfl rfl)).mp c56) | skip
          have t58 : (0 : Int32).toInt = 0 := rfl
          exact hQ (0 : Int32) I49 L50 w_I49 q_I49 (by omega)
        · skip
          first | (have t59 : r1.toInt = r47.toInt := (i_eq rfl rfl).mp c56) | (have t59 : r1.toInt = r47.toInt := (i_eq rfl rfl).mp c56) | skip
          have t60 : (1 : Int32).toInt = 1 := rfl
          exact hQ (1 : Int32) I49 L50 w_I49 q_I49 (by omega)
    · skip
      first | (have t61 : ¬ (r23.toInt = (0)) := (not_congr (i_eq rfl (show (0 : Int32).toInt = 0 from rfl))).mp c32) | (have t61 : ¬ (r23.toInt = (0 : Int32).toInt) := (not_congr (i_eq rfl rfl)).mp c32) | skip
      refine hF 1 (by decide) Z I25 L26 w_I25 v0 v1 kv0 uR huR kuR (by omega) (by omega) (by omega) (by omega) _ (fun r62 I64 L65 w_I64 f_I64 p66 => ?_)
      have q_I64 : FR Ws_R12 Z I Z I64 := q_I25.trans w_I.1 w_I.2.1 (f_I64.mono (by decide))
      have u67 : (I64 v0 31).toInt = (I25 v0 31).toInt := by rw [f_I64.2.2.1 v0 12 31 kv0 (by decide) (by decide)]
      have u68 : (I64 v0 32).toInt = (I25 v0 32).toInt := by rw [f_I64.2.2.1 v0 12 32 kv0 (by decide) (by decide)]
      have u69 : (I64 v0 24).toInt = (I25 v0 24).toInt := by rw [f_I64.2.2.1 v0 12 24 kv0 (by decide) (by decide)]
      have u70 : (I64 v0 25).toInt = (I25 v0 25).toInt := by rw [f_I64.2.2.1 v0 12 25 kv0 (by decide) (by decide)]
      have rr62 := i_rng r62
      refine ⟨fun c71 => ?_, fun c71 => ?_⟩
      · skip
        first | (have t72 : r1.toInt ≤ r62.toInt := (i_le rfl rfl).mp c71) | (have t72 : r1.toInt ≤ r62.toInt := (i_le rfl rfl).mp c71) | skip
        have t73 : (0 : Int32).toInt = 0 := rfl
        exact hQ (0 : Int32) I64 L65 w_I64 q_I64 (by omega)
      · skip
        first | (have t74 : ¬ (r1.toInt ≤ r62.toInt) := (not_congr (i_le rfl rfl)).mp c71) | (have t74 : ¬ (r1.toInt ≤ r62.toInt) := (not_congr (i_le rfl rfl)).mp c71) | skip
        have t75 : (1 : Int32).toInt = 1 := rfl
        exact hQ (1 : Int32) I64 L65 w_I64 q_I64 (by omega)
  · skip
    first | (have t76 : ¬ (r11.toInt = (0)) := (not_congr (i_eq rfl (show (0 : Int32).toInt = 0 from rfl))).mp c20) | (have t76 : ¬ (r11.toInt = (0 : Int32).toInt) := (not_congr (i_eq rfl rfl)).mp c20) | skip
    refine hF 1 (by decide) Z I13 L14 w_I13 v0 v1 kv0 uR huR kuR (by omega) (by omega) (by omega) (by omega) _ (fun r77 I79 L80 w_I79 f_I79 p81 => ?_)
    have q_I79 : FR Ws_R12 Z I Z I79 := q_I13.trans w_I.1 w_I.2.1 (f_I79.mono (by decide))
    have u82 : (I79 v0 31).toInt = (I13 v0 31).toInt := by rw [f_I79.2.2.1 v0 12 31 kv0 (by decide) (by decide)]
    have u83 : (I79 v0 32).toInt = (I13 v0 32).toInt := by rw [f_I79.2.2.1 v0 12 32 kv0 (by decide) (by decide)]
    have u84 : (I79 v0 24).toInt = (I13 v0 24).toInt := by rw [f_I79.2.2.1 v0 12 24 kv0 (by decide) (by decide)]
    have u85 : (I79 v0 25).toInt = (I13 v0 25).toInt := by rw [f_I79.2.2.1 v0 12 25 kv0 (by decide) (by decide)]
    have rr77 := i_rng r77
    refine ⟨fun c86 => ?_, fun c86 => ?_⟩
    · skip
      first | (have t87 : r77.toInt ≤ r1.toInt := (i_le rfl rfl).mp c86) | (have t87 : r77.toInt ≤ r1.toInt := (i_le rfl rfl).mp c86) | skip
      have t88 : (0 : Int32).toInt = 0 := rfl
      exact hQ (0 : Int32) I79 L80 w_I79 q_I79 (by omega)
    · skip
      first | (have t89 : ¬ (r77.toInt ≤ r1.toInt) := (not_congr (i_le rfl rfl)).mp c86) | (have t89 : ¬ (r77.toInt ≤ r1.toInt) := (not_congr (i_le rfl rfl)).mp c86) | skip
      have t90 : (1 : Int32).toInt = 1 := rfl
      exact hQ (1 : Int32) I79 L80 w_I79 q_I79 (by omega)
end
section
theorem hs12 : ∀ d : Nat, HS12 d (fR12 d) := by
  intro d
  induction d with
  | zero =>
    intro w hw Z I L w_I v0 v1 kv0 uR huR kuR p0 p1 p2 p3
    exfalso
    omega
  | succ d ih =>
    intro w hw Z I L w_I v0 v1 kv0 uR huR kuR p0 p1 p2 p3 Q hQ
    match w, hw with
    | 0, _ => exact s_X12_held ih w_I v0 v1 kv0 uR huR kuR p0 p1 p2 (by omega) hQ
    | 1, _ => exact s_X12_sum ih w_I v0 v1 kv0 uR huR kuR p0 p1 p2 (by omega) hQ
    | 2, _ => exact s_X12_product ih w_I v0 v1 kv0 uR huR kuR p0 p1 p2 (by omega) hQ
    | 3, _ => exact s_X12_thing ih w_I v0 v1 kv0 uR huR kuR p0 p1 p2 (by omega) hQ
end
