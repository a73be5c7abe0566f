def Ws_X12_take : List (Nat × Nat) := [(12, 66)]
set_option maxHeartbeats 4000000 in
set_option maxRecDepth 100000 in
theorem s_X12_take {Z : jZ} {I : jI} {L : jL} (w_I : WD Z I) (v0 : Nat) (kv0 : jk Z v0 12) (p0 : 0 ≤ (I v0 66).toInt ∧ (I v0 66).toInt ≤ 531) {Q : Int32 → jI → jL → Prop} (hQ : ∀ (r : Int32) (I' : jI) (L' : jL), WD Z I' → FR Ws_X12_take Z I Z I' → ((I' v0 66).toInt = (I v0 66).toInt + 1 ∧ okA 12 62 (I v0 66).toNatClampNeg r) → Q r I' L') : f_X12_take v0 Z I L Q := by
  unfold f_X12_take
  have q_I : FR Ws_X12_take Z I Z I := FR.rf
  intro I1 eI1
  try (have t2 : ((I v0 66) + (1 : Int32)).toInt = ((I v0 66).toInt + (1)) := (i_add rfl (show (1 : Int32).toInt = 1 from rfl) (by omega) (by omega)))
  have w_I1 : WD Z I1 := by rw [eI1]; exact WD_putF w_I 12 66 kv0 (by decide) (by decide) trivial
  have f_I1 : FR [(12, 66)] Z I Z I1 := by rw [eI1]; exact FR_putF kv0 (by decide) List.mem_cons_self
  have q_I1 : FR Ws_X12_take Z I Z I1 := q_I.trans w_I.1 w_I.2.1 (f_I1.mono (by decide))
  first | (have u3 : (I1 v0 66).toInt = ((I v0 66).toInt + (1)) := by (rw [eI1, show jpI I v0 66 ((I v0 66) + (1 : Int32)) v0 66 = ((I v0 66) + (1 : Int32)) from jpI_at] <;> exact (i_add rfl (show (1 : Int32).toInt = 1 from rfl) (by omega) (by omega)))) | skip
  intro b4 eb4
  obtain ⟨x5, ex5, kb4, lb4⟩ := sh_f w_I1.1 kv0 (j := 62) (k := 14) (m := 532) rfl
  cases eb4.symm.trans ex5
  have o6 : vp_in ((I1 v0 66) - (1 : Int32)) 532 := vi_of (i_sub rfl (show (1 : Int32).toInt = 1 from rfl) (by omega) (by omega)) (by omega) (by omega)
  refine ⟨o6, ?_⟩
  exact hQ (I1 b4 ((I1 v0 66) - (1 : Int32)).toNatClampNeg) I1 L w_I1 q_I1 (by refine ⟨by omega, ?_⟩; have e9 : ((I1 v0 66) - (1 : Int32)).toNatClampNeg = (I v0 66).toNatClampNeg := (by have h1 := i_nat (x := (I1 v0 66) - (1 : Int32)) (i_sub rfl (show (1 : Int32).toInt = 1 from rfl) (by omega) (by omega)) (by omega); have h2 := i_nat (x := I v0 66) rfl (by omega); omega); rw [← e9]; exact w_I1.arr 12 62 kv0 eb4 kb4 rfl rfl _)
def Ws_X12_keep : List (Nat × Nat) := [(12, 22), (12, 62), (12, 63), (12, 64), (12, 65), (12, 66)]
set_option maxHeartbeats 4000000 in
set_option maxRecDepth 100000 in
theorem l_X12_keep_L157 {Z : jZ} {I0 : jI} {Q : Int32 → jI → jL → Prop} (w0 : WD Z I0) (v0 : Nat) (v1 : Int32) (kv0 : jk Z v0 12) (hQ : ∀ (r : Int32) (I' : jI) (L' : jL), WD Z I' → FR Ws_X12_keep Z I0 Z I' → ((r.toInt = 1 ∧ 0 ≤ v1.toInt ∧ v1.toInt ≤ 1) ∨ (r.toInt = 0 ∧ ¬ (0 ≤ v1.toInt ∧ v1.toInt ≤ 1))) → Q r I' L') : ∀ (n : Nat) (v2 : Int32) (I : jI) (L : jL), WD Z I → FR Ws_X12_keep Z I0 Z I →   (0 ≤ v2.toInt ∧ v2.toInt ≤ 8 ∧ (I v0 66).toInt = 266 * v1.toInt + 258 + 1 * v2.toInt ∧ 0 ≤ v1.toInt ∧ v1.toInt ≤ 1) → 8 - v2.toInt < (n : Int) → f_X12_keep_L157  Z Q n v0 v2 I L := by
  intro n
  induction n with
  | zero =>
    intro v2 I L w_I q_I   li  me
    exfalso
    omega
  | succ n ih =>
    intro v2 I L w_I q_I   li  me
    unfold f_X12_keep_L157
    have rv2 := i_rng v2
    have rv1 := i_rng v1
    refine ⟨fun c1 => ?_, fun c1 => ?_⟩
    · skip
      first | (have t2 : (8) ≤ v2.toInt := (i_le (show (8 : Int32).toInt = 8 from rfl) rfl).mp c1) | (have t2 : (8 : Int32).toInt ≤ v2.toInt := (i_le rfl rfl).mp c1) | skip
      have t3 : (1 : Int32).toInt = 1 := rfl
      exact hQ (1 : Int32) I L w_I q_I (by omega)
    · skip
      first | (have t4 : ¬ ((8) ≤ v2.toInt) := (not_congr (i_le (show (8 : Int32).toInt = 8 from rfl) rfl)).mp c1) | (have t4 : ¬ ((8 : Int32).toInt ≤ v2.toInt) := (not_congr (i_le rfl rfl)).mp c1) | skip
      intro b5 eb5
      obtain ⟨x6, ex6, kb5, lb5⟩ := sh_f w_I.1 kv0 (j := 17) (k := 14) (m := 8) rfl
      cases eb5.symm.trans ex6
      have o7 : vp_in v2 8 := vi_of rfl (by omega) (by omega)
      refine ⟨o7, ?_⟩
      refine s_X12_put w_I v0 (I b5 v2.toNatClampNeg) kv0  (by omega) (by exact ptF (k := v1.toInt) (m := (I v0 66).toInt - 266 * v1.toInt) (by omega) (by omega) (by omega) (by refine ⟨?_, ?_, ?_⟩ <;> intros <;> (constructor <;> omega))) (fun  I9 L10 w_I9 f_I9 p8 => ?_)
      have q_I9 : FR Ws_X12_keep Z I0 Z I9 := q_I.trans w0.1 w0.2.1 (f_I9.mono (by decide))
      intro x11 ex11
      have rx11 := i_rng x11
      first | (have tx11 : x11.toInt = v2.toInt + (1) := by (rw [ex11]; exact (i_add rfl (show (1 : Int32).toInt = 1 from rfl) (by omega) (by omega)))) | skip
      exact ih x11 I9 L10 w_I9 q_I9   (by omega)  (by omega)
set_option maxHeartbeats 4000000 in
set_option maxRecDepth 100000 in
theorem l_X12_keep_L113 {Z : jZ} {I0 : jI} {Q : Int32 → jI → jL → Prop} (w0 : WD Z I0) (v0 : Nat) (v1 : Int32) (kv0 : jk Z v0 12) (hQ : ∀ (r : Int32) (I' : jI) (L' : jL), WD Z I' → FR Ws_X12_keep Z I0 Z I' → ((r.toInt = 1 ∧ 0 ≤ v1.toInt ∧ v1.toInt ≤ 1) ∨ (r.toInt = 0 ∧ ¬ (0 ≤ v1.toInt ∧ v1.toInt ≤ 1))) → Q r I' L') : ∀ (n : Nat) (v2 : Int32) (I : jI) (L : jL), WD Z I → FR Ws_X12_keep Z I0 Z I →   (0 ≤ v2.toInt ∧ v2.toInt ≤ 6 ∧ (I v0 66).toInt = 266 * v1.toInt + 240 + 3 * v2.toInt ∧ 0 ≤ v1.toInt ∧ v1.toInt ≤ 1) → 6 - v2.toInt < (n : Int) → f_X12_keep_L113  Z Q n v0 v2 I L := by
  intro n
  induction n with
  | zero =>
    intro v2 I L w_I q_I   li  me
    exfalso
    omega
  | succ n ih =>
    intro v2 I L w_I q_I   li  me
    unfold f_X12_keep_L113
    have rv2 := i_rng v2
    have rv1 := i_rng v1
    refine ⟨fun c12 => ?_, fun c12 => ?_⟩
    · skip
      first | (have t13 : (6) ≤ v2.toInt := (i_le (show (6 : Int32).toInt = 6 from rfl) rfl).mp c12) | (have t13 : (6 : Int32).toInt ≤ v2.toInt := (i_le rfl rfl).mp c12) | skip
      have t14 : (0 : Int32).toInt = 0 := rfl
      exact ⟨(8 - (0 : Int32).toInt).toNat + 1, l_X12_keep_L157 w0 v0 v1 kv0   hQ   _ (0 : Int32) I L w_I q_I   (by omega)  (by omega)⟩
    · skip
      first | (have t15 : ¬ ((6) ≤ v2.toInt) := (not_congr (i_le (show (6 : Int32).toInt = 6 from rfl) rfl)).mp c12) | (have t15 : ¬ ((6 : Int32).toInt ≤ v2.toInt) := (not_congr (i_le rfl rfl)).mp c12) | skip
      intro b16 eb16
      obtain ⟨x17, ex17, kb16, lb16⟩ := sh_f w_I.1 kv0 (j := 14) (k := 14) (m := 6) rfl
      cases eb16.symm.trans ex17
      have o18 : vp_in v2 6 := vi_of rfl (by omega) (by omega)
      refine ⟨o18, ?_⟩
      have t19 : -1 ≤ (I b16 v2.toNatClampNeg).toInt ∧ (I b16 v2.toNatClampNeg).toInt ≤ 23 := w_I.arr 12 14 kv0 eb16 kb16 rfl rfl _
      refine s_X12_put w_I v0 (I b16 v2.toNatClampNeg) kv0  (by omega) (by exact ptF (k := v1.toInt) (m := (I v0 66).toInt - 266 * v1.toInt) (by omega) (by omega) (by omega) (by refine ⟨?_, ?_, ?_⟩ <;> intros <;> (constructor <;> omega))) (fun  I21 L22 w_I21 f_I21 p20 => ?_)
      have q_I21 : FR Ws_X12_keep Z I0 Z I21 := q_I.trans w0.1 w0.2.1 (f_I21.mono (by decide))
      intro b23 eb23
      obtain ⟨x24, ex24, kb23, lb23⟩ := sh_f w_I21.1 kv0 (j := 15) (k := 14) (m := 6) rfl
      cases eb23.symm.trans ex24
      have o25 : vp_in v2 6 := vi_of rfl (by omega) (by omega)
      refine ⟨o25, ?_⟩
      refine s_X12_put w_I21 v0 (I21 b23 v2.toNatClampNeg) kv0  (by omega) (by exact ptF (k := v1.toInt) (m := (I21 v0 66).toInt - 266 * v1.toInt) (by omega) (by omega) (by omega) (by refine ⟨?_, ?_, ?_⟩ <;> intros <;> (constructor <;> omega))) (fun  I27 L28 w_I27 f_I27 p26 => ?_)
      have q_I27 : FR Ws_X12_keep Z I0 Z I27 := q_I21.trans w0.1 w0.2.1 (f_I27.mono (by decide))
      intro b29 eb29
      obtain ⟨x30, ex30, kb29, lb29⟩ := sh_f w_I27.1 kv0 (j := 16) (k := 14) (m := 6) rfl
      cases eb29.symm.trans ex30
      have o31 : vp_in v2 6 := vi_of rfl (by omega) (by omega)
      refine ⟨o31, ?_⟩
      refine s_X12_put w_I27 v0 (I27 b29 v2.toNatClampNeg) kv0  (by omega) (by exact ptF (k := v1.toInt) (m := (I27 v0 66).toInt - 266 * v1.toInt) (by omega) (by omega) (by omega) (by refine ⟨?_, ?_, ?_⟩ <;> intros <;> (constructor <;> omega))) (fun  I33 L34 w_I33 f_I33 p32 => ?_)
      have q_I33 : FR Ws_X12_keep Z I0 Z I33 := q_I27.trans w0.1 w0.2.1 (f_I33.mono (by decide))
      intro x35 ex35
      have rx35 := i_rng x35
      first | (have tx35 : x35.toInt = v2.toInt + (1) := by (rw [ex35]; exact (i_add rfl (show (1 : Int32).toInt = 1 from rfl) (by omega) (by omega)))) | skip
      exact ih x35 I33 L34 w_I33 q_I33   (by omega)  (by omega)
set_option maxHeartbeats 4000000 in
set_option maxRecDepth 100000 in
theorem l_X12_keep_L88 {Z : jZ} {I0 : jI} {Q : Int32 → jI → jL → Prop} (w0 : WD Z I0) (v0 : Nat) (v1 : Int32) (kv0 : jk Z v0 12) (hQ : ∀ (r : Int32) (I' : jI) (L' : jL), WD Z I' → FR Ws_X12_keep Z I0 Z I' → ((r.toInt = 1 ∧ 0 ≤ v1.toInt ∧ v1.toInt ≤ 1) ∨ (r.toInt = 0 ∧ ¬ (0 ≤ v1.toInt ∧ v1.toInt ≤ 1))) → Q r I' L') : ∀ (n : Nat) (v2 : Int32) (I : jI) (L : jL), WD Z I → FR Ws_X12_keep Z I0 Z I →   (0 ≤ v2.toInt ∧ v2.toInt ≤ 192 ∧ (I v0 66).toInt = 266 * v1.toInt + 48 + 1 * v2.toInt ∧ 0 ≤ v1.toInt ∧ v1.toInt ≤ 1) → 192 - v2.toInt < (n : Int) → f_X12_keep_L88  Z Q n v0 v2 I L := by
  intro n
  induction n with
  | zero =>
    intro v2 I L w_I q_I   li  me
    exfalso
    omega
  | succ n ih =>
    intro v2 I L w_I q_I   li  me
    unfold f_X12_keep_L88
    have rv2 := i_rng v2
    have rv1 := i_rng v1
    refine ⟨fun c36 => ?_, fun c36 => ?_⟩
    · skip
      first | (have t37 : (192) ≤ v2.toInt := (i_le (show (192 : Int32).toInt = 192 from rfl) rfl).mp c36) | (have t37 : (192 : Int32).toInt ≤ v2.toInt := (i_le rfl rfl).mp c36) | skip
      have t38 : (0 : Int32).toInt = 0 := rfl
      exact ⟨(6 - (0 : Int32).toInt).toNat + 1, l_X12_keep_L113 w0 v0 v1 kv0   hQ   _ (0 : Int32) I L w_I q_I   (by omega)  (by omega)⟩
    · skip
      first | (have t39 : ¬ ((192) ≤ v2.toInt) := (not_congr (i_le (show (192 : Int32).toInt = 192 from rfl) rfl)).mp c36) | (have t39 : ¬ ((192 : Int32).toInt ≤ v2.toInt) := (not_congr (i_le rfl rfl)).mp c36) | skip
      intro b40 eb40
      obtain ⟨x41, ex41, kb40, lb40⟩ := sh_f w_I.1 kv0 (j := 5) (k := 14) (m := 192) rfl
      cases eb40.symm.trans ex41
      have o42 : vp_in v2 192 := vi_of rfl (by omega) (by omega)
      refine ⟨o42, ?_⟩
      refine s_X12_put w_I v0 (I b40 v2.toNatClampNeg) kv0  (by omega) (by exact ptF (k := v1.toInt) (m := (I v0 66).toInt - 266 * v1.toInt) (by omega) (by omega) (by omega) (by refine ⟨?_, ?_, ?_⟩ <;> intros <;> (constructor <;> omega))) (fun  I44 L45 w_I44 f_I44 p43 => ?_)
      have q_I44 : FR Ws_X12_keep Z I0 Z I44 := q_I.trans w0.1 w0.2.1 (f_I44.mono (by decide))
      intro x46 ex46
      have rx46 := i_rng x46
      first | (have tx46 : x46.toInt = v2.toInt + (1) := by (rw [ex46]; exact (i_add rfl (show (1 : Int32).toInt = 1 from rfl) (by omega) (by omega)))) | skip
      exact ih x46 I44 L45 w_I44 q_I44   (by omega)  (by omega)
set_option maxHeartbeats 4000000 in
set_option maxRecDepth 100000 in
theorem l_X12_keep_L54 {Z : jZ} {I0 : jI} {Q : Int32 → jI → jL → Prop} (w0 : WD Z I0) (v0 : Nat) (v1 : Int32) (kv0 : jk Z v0 12) (hQ : ∀ (r : Int32) (I' : jI) (L' : jL), WD Z I' → FR Ws_X12_keep Z I0 Z I' → ((r.toInt = 1 ∧ 0 ≤ v1.toInt ∧ v1.toInt ≤ 1) ∨ (r.toInt = 0 ∧ ¬ (0 ≤ v1.toInt ∧ v1.toInt ≤ 1))) → Q r I' L') : ∀ (n : Nat) (v2 : Int32) (I : jI) (L : jL), WD Z I → FR Ws_X12_keep Z I0 Z I →   (0 ≤ v2.toInt ∧ v2.toInt ≤ 24 ∧ (I v0 66).toInt = 266 * v1.toInt + 0 + 2 * v2.toInt ∧ 0 ≤ v1.toInt ∧ v1.toInt ≤ 1) → 24 - v2.toInt < (n : Int) → f_X12_keep_L54  Z Q n v0 v2 I L := by
  intro n
  induction n with
  | zero =>
    intro v2 I L w_I q_I   li  me
    exfalso
    omega
  | succ n ih =>
    intro v2 I L w_I q_I   li  me
    unfold f_X12_keep_L54
    have rv2 := i_rng v2
    have rv1 := i_rng v1
    refine ⟨fun c47 => ?_, fun c47 => ?_⟩
    · skip
      first | (have t48 : (24) ≤ v2.toInt := (i_le (show (24 : Int32).toInt = 24 from rfl) rfl).mp c47) | (have t48 : (24 : Int32).toInt ≤ v2.toInt := (i_le rfl rfl).mp c47) | skip
      have t49 : (0 : Int32).toInt = 0 := rfl
      exact ⟨(192 - (0 : Int32).toInt).toNat + 1, l_X12_keep_L88 w0 v0 v1 kv0   hQ   _ (0 : Int32) I L w_I q_I   (by omega)  (by omega)⟩
    · skip
      first | (have t50 : ¬ ((24) ≤ v2.toInt) := (not_congr (i_le (show (24 : Int32).toInt = 24 from rfl) rfl)).mp c47) | (have t50 : ¬ ((24 : Int32).toInt ≤ v2.toInt) := (not_congr (i_le rfl rfl)).mp c47) | skip
      intro b51 eb51
      obtain ⟨x52, ex52, kb51, lb51⟩ := sh_f w_I.1 kv0 (j := 2) (k := 14) (m := 24) rfl
      cases eb51.symm.trans ex52
      have o53 : vp_in v2 24 := vi_of rfl (by omega) (by omega)
      refine ⟨o53, ?_⟩
      have t54 : 0 ≤ (I b51 v2.toNatClampNeg).toInt ∧ (I b51 v2.toNatClampNeg).toInt ≤ 9 := w_I.arr 12 2 kv0 eb51 kb51 rfl rfl _
      refine s_X12_put w_I v0 (I b51 v2.toNatClampNeg) kv0  (by omega) (by exact ptF (k := v1.toInt) (m := (I v0 66).toInt - 266 * v1.toInt) (by omega) (by omega) (by omega) (by refine ⟨?_, ?_, ?_⟩ <;> intros <;> (constructor <;> omega))) (fun  I56 L57 w_I56 f_I56 p55 => ?_)
      have q_I56 : FR Ws_X12_keep Z I0 Z I56 := q_I.trans w0.1 w0.2.1 (f_I56.mono (by decide))
      intro b58 eb58
      obtain ⟨x59, ex59, kb58, lb58⟩ := sh_f w_I56.1 kv0 (j := 3) (k := 14) (m := 24) rfl
      cases eb58.symm.trans ex59
      have o60 : vp_in v2 24 := vi_of rfl (by omega) (by omega)
      refine ⟨o60, ?_⟩
      have t61 : 0 ≤ (I56 b58 v2.toNatClampNeg).toInt ∧ (I56 b58 v2.toNatClampNeg).toInt ≤ 20 := w_I56.arr 12 3 kv0 eb58 kb58 rfl rfl _
      refine s_X12_put w_I56 v0 (I56 b58 v2.toNatClampNeg) kv0  (by omega) (by exact ptF (k := v1.toInt) (m := (I56 v0 66).toInt - 266 * v1.toInt) (by omega) (by omega) (by omega) (by refine ⟨?_, ?_, ?_⟩ <;> intros <;> (constructor <;> omega))) (fun  I63 L64 w_I63 f_I63 p62 => ?_)
      have q_I63 : FR Ws_X12_keep Z I0 Z I63 := q_I56.trans w0.1 w0.2.1 (f_I63.mono (by decide))
      intro x65 ex65
      have rx65 := i_rng x65
      first | (have tx65 : x65.toInt = v2.toInt + (1) := by (rw [ex65]; exact (i_add rfl (show (1 : Int32).toInt = 1 from rfl) (by omega) (by omega)))) | skip
      exact ih x65 I63 L64 w_I63 q_I63   (by omega)  (by omega)
set_option maxHeartbeats 4000000 in
set_option maxRecDepth 100000 in
theorem s_X12_keep {Z : jZ} {I : jI} {L : jL} (w_I : WD Z I) (v0 : Nat) (v1 : Int32) (kv0 : jk Z v0 12) {Q : Int32 → jI → jL → Prop} (hQ : ∀ (r : Int32) (I' : jI) (L' : jL), WD Z I' → FR Ws_X12_keep Z I Z I' → ((r.toInt = 1 ∧ 0 ≤ v1.toInt ∧ v1.toInt ≤ 1) ∨ (r.toInt = 0 ∧ ¬ (0 ≤ v1.toInt ∧ v1.toInt ≤ 1))) → Q r I' L') : f_X12_keep v0 v1 Z I L Q := by
  unfold f_X12_keep
  have q_I : FR Ws_X12_keep Z I Z I := FR.rf
  have rv1 := i_rng v1
  intro I66 eI66
  have t67 : (0 : Int32).toInt = 0 := rfl
  have w_I66 : WD Z I66 := by rw [eI66]; exact WD_putF w_I 12 22 kv0 (by decide) (by decide) trivial
  have f_I66 : FR [(12, 22)] Z I Z I66 := by rw [eI66]; exact FR_putF kv0 (by decide) List.mem_cons_self
  have q_I66 : FR Ws_X12_keep Z I Z I66 := q_I.trans w_I.1 w_I.2.1 (f_I66.mono (by decide))
  have u68 : (I66 v0 66).toInt = (I v0 66).toInt := by rw [f_I66.2.2.1 v0 12 66 kv0 (by decide) (by decide)]
  first | (have u69 : (I66 v0 22).toInt = (0) := by (rw [eI66, show jpI I v0 22 (0 : Int32) v0 22 = (0 : Int32) from jpI_at] <;> exact (show (0 : Int32).toInt = 0 from rfl))) | skip
  have t70 : (0 : Int32).toInt = 0 := rfl
  have t71 : (1 : Int32).toInt = 1 := rfl
  refine s_X12_in w_I66 v1 (0 : Int32) (1 : Int32)    (fun r72 p73 => ?_)
  have rr72 := i_rng r72
  refine ⟨fun c74 => ?_, fun c74 => ?_⟩
  · skip
    first | (have t75 : ¬ (r72.toInt = (0)) := (not_congr (i_eq rfl (show (0 : Int32).toInt = 0 from rfl))).mp c74) | (have t75 : ¬ (r72.toInt = (0 : Int32).toInt) := (not_congr (i_eq rfl rfl)).mp c74) | skip
    intro b76 eb76
    obtain ⟨x77, ex77, kb76, lb76⟩ := sh_f w_I66.1 kv0 (j := 63) (k := 16) (m := 2) rfl
    cases eb76.symm.trans ex77
    have o78 : vp_in v1 2 := vi_of rfl (by omega) (by omega)
    refine ⟨o78, ?_⟩
    intro I79 eI79
    have t80 : (1 : Int32).toInt = 1 := rfl
    have w_I79 : WD Z I79 := by rw [eI79]; exact WD_putA w_I66 12 63 kv0 eb76 kb76 rfl rfl (by decide) trivial
    have f_I79 : FR [(12, 63)] Z I66 Z I79 := by rw [eI79]; exact FR_upA w_I66.2.1 kv0 eb76 kb76 rfl rfl List.mem_cons_self
    have q_I79 : FR Ws_X12_keep Z I Z I79 := q_I66.trans w_I.1 w_I.2.1 (f_I79.mono (by decide))
    have u81 : (I79 v0 66).toInt = (I66 v0 66).toInt := by rw [f_I79.2.2.1 v0 12 66 kv0 (by decide) (by decide)]
    have u82 : (I79 v0 22).toInt = (I66 v0 22).toInt := by rw [f_I79.2.2.1 v0 12 22 kv0 (by decide) (by decide)]
    intro b83 eb83
    obtain ⟨x84, ex84, kb83, lb83⟩ := sh_f w_I79.1 kv0 (j := 64) (k := 14) (m := 2) rfl
    cases eb83.symm.trans ex84
    have o85 : vp_in v1 2 := vi_of rfl (by omega) (by omega)
    refine ⟨o85, ?_⟩
    intro I86 eI86
    have w_I86 : WD Z I86 := by rw [eI86]; exact WD_putA w_I79 12 64 kv0 eb83 kb83 rfl rfl (by decide) trivial
    have f_I86 : FR [(12, 64)] Z I79 Z I86 := by rw [eI86]; exact FR_upA w_I79.2.1 kv0 eb83 kb83 rfl rfl List.mem_cons_self
    have q_I86 : FR Ws_X12_keep Z I Z I86 := q_I79.trans w_I.1 w_I.2.1 (f_I86.mono (by decide))
    have u87 : (I86 v0 66).toInt = (I79 v0 66).toInt := by rw [f_I86.2.2.1 v0 12 66 kv0 (by decide) (by decide)]
    have u88 : (I86 v0 22).toInt = (I79 v0 22).toInt := by rw [f_I86.2.2.1 v0 12 22 kv0 (by decide) (by decide)]
    have u89 : (I86 v0 7).toInt = (I79 v0 7).toInt := by rw [f_I86.2.2.1 v0 12 7 kv0 (by decide) (by decide)]
    intro b90 eb90
    obtain ⟨x91, ex91, kb90, lb90⟩ := sh_f w_I86.1 kv0 (j := 65) (k := 14) (m := 2) rfl
    cases eb90.symm.trans ex91
    have t93 : 0 ≤ (I86 v0 8).toInt ∧ (I86 v0 8).toInt ≤ 6 := w_I86.fld 12 8 kv0 (by decide)
    have o94 : vp_in v1 2 := vi_of rfl (by omega) (by omega)
    refine ⟨o94, ?_⟩
    intro I95 eI95
    have w_I95 : WD Z I95 := by rw [eI95]; exact WD_putA w_I86 12 65 kv0 eb90 kb90 rfl rfl (by decide) trivial
    have f_I95 : FR [(12, 65)] Z I86 Z I95 := by rw [eI95]; exact FR_upA w_I86.2.1 kv0 eb90 kb90 rfl rfl List.mem_cons_self
    have q_I95 : FR Ws_X12_keep Z I Z I95 := q_I86.trans w_I.1 w_I.2.1 (f_I95.mono (by decide))
    have u96 : (I95 v0 66).toInt = (I86 v0 66).toInt := by rw [f_I95.2.2.1 v0 12 66 kv0 (by decide) (by decide)]
    have u97 : (I95 v0 22).toInt = (I86 v0 22).toInt := by rw [f_I95.2.2.1 v0 12 22 kv0 (by decide) (by decide)]
    have u98 : (I95 v0 7).toInt = (I86 v0 7).toInt := by rw [f_I95.2.2.1 v0 12 7 kv0 (by decide) (by decide)]
    have u99 : (I95 v0 8).toInt = (I86 v0 8).toInt := by rw [f_I95.2.2.1 v0 12 8 kv0 (by decide) (by decide)]
    intro I100 eI100
    try (have t101 : ((266 : Int32) * v1).toInt = ((266) * v1.toInt) := (i_mul (show (266 : Int32).toInt = 266 from rfl) rfl (by omega) (by omega)))
    have w_I100 : WD Z I100 := by rw [eI100]; exact WD_putF w_I95 12 66 kv0 (by decide) (by decide) trivial
    have f_I100 : FR [(12, 66)] Z I95 Z I100 := by rw [eI100]; exact FR_putF kv0 (by decide) List.mem_cons_self
    have q_I100 : FR Ws_X12_keep Z I Z I100 := q_I95.trans w_I.1 w_I.2.1 (f_I100.mono (by decide))
    have u102 : (I100 v0 22).toInt = (I95 v0 22).toInt := by rw [f_I100.2.2.1 v0 12 22 kv0 (by decide) (by decide)]
    have u103 : (I100 v0 7).toInt = (I95 v0 7).toInt := by rw [f_I100.2.2.1 v0 12 7 kv0 (by decide) (by decide)]
    have u104 : (I100 v0 8).toInt = (I95 v0 8).toInt := by rw [f_I100.2.2.1 v0 12 8 kv0 (by decide) (by decide)]
    first | (have u105 : (I100 v0 66).toInt = ((266) * v1.toInt) := by (rw [eI100, show jpI I95 v0 66 ((266 : Int32) * v1) v0 66 = ((266 : Int32) * v1) from jpI_at] <;> exact (i_mul (show (266 : Int32).toInt = 266 from rfl) rfl (by omega) (by omega)))) | skip
    have t106 : (0 : Int32).toInt = 0 := rfl
    exact ⟨(24 - (0 : Int32).toInt).toNat + 1, l_X12_keep_L54 w_I v0 v1 kv0   hQ   _ (0 : Int32) I100 L w_I100 q_I100   (by omega)  (by omega)⟩
  · skip
    first | (have t107 : r72.toInt = (0) := (i_eq rfl (show (0 : Int32).toInt = 0 from rfl)).mp c74) | (have t107 : r72.toInt = (0 : Int32).toInt := (i_eq rfl rfl).mp c74) | skip
    have t108 : (0 : Int32).toInt = 0 := rfl
    exact hQ (0 : Int32) I66 L w_I66 q_I66 (by omega)
def Ws_X12_count : List (Nat × Nat) := [(12, 22)]
set_option maxHeartbeats 4000000 in
set_option maxRecDepth 100000 in
theorem l_X12_count_L103 {Z : jZ} {I0 : jI} {Q : Int32 → jI → jL → Prop} (w0 : WD Z I0) (v0 : Nat) (v1 : Int32) (kv0 : jk Z v0 12) (hQ : ∀ (r : Int32) (I' : jI) (L' : jL), WD Z I' → FR Ws_X12_count Z I0 Z I' → Q r I' L') : ∀ (n : Nat) (v2 : Int32) (v3 : Int32) (I : jI) (L : jL), WD Z I → FR Ws_X12_count Z I0 Z I →   (0 ≤ v3.toInt ∧ v3.toInt ≤ 8) → 8 - v3.toInt < (n : Int) → f_X12_count_L103  Z Q n v0 v2 v3 I L := by
  intro n
  induction n with
  | zero =>
    intro v2 v3 I L w_I q_I   li  me
    exfalso
    omega
  | succ n ih =>
    intro v2 v3 I L w_I q_I   li  me
    unfold f_X12_count_L103
    have rv2 := i_rng v2
    have rv3 := i_rng v3
    have rv1 := i_rng v1
    refine ⟨fun c1 => ?_, fun c1 => ?_⟩
    · skip
      first | (have t2 : (8) ≤ v3.toInt := (i_le (show (8 : Int32).toInt = 8 from rfl) rfl).mp c1) | (have t2 : (8 : Int32).toInt ≤ v3.toInt := (i_le rfl rfl).mp c1) | skip
      exact hQ v2 I L w_I q_I 
    · skip
      first | (have t3 : ¬ ((8) ≤ v3.toInt) := (not_congr (i_le (show (8 : Int32).toInt = 8 from rfl) rfl)).mp c1) | (have t3 : ¬ ((8 : Int32).toInt ≤ v3.toInt) := (not_congr (i_le rfl rfl)).mp c1) | skip
      intro b4 eb4
      obtain ⟨x5, ex5, kb4, lb4⟩ := sh_f w_I.1 kv0 (j := 17) (k := 14) (m := 8) rfl
      cases eb4.symm.trans ex5
      have o6 : vp_in v3 8 := vi_of rfl (by omega) (by omega)
      refine ⟨o6, ?_⟩
      intro x7 ex7
      have rx7 := i_rng x7
      first | (have tx7 : x7.toInt = (v2.toInt + (I b4 v3.toNatClampNeg).toInt) := by (rw [ex7]; exact (i_add rfl rfl (by omega) (by omega)))) | (have tx7 : x7.toInt = (v2 + (I b4 v3.toNatClampNeg)).toInt := by rw [ex7])
      intro x8 ex8
      have rx8 := i_rng x8
      first | (have tx8 : x8.toInt = v3.toInt + (1) := by (rw [ex8]; exact (i_add rfl (show (1 : Int32).toInt = 1 from rfl) (by omega) (by omega)))) | skip
      exact ih x7 x8 I L w_I q_I   (by omega)  (by omega)
set_option maxHeartbeats 4000000 in
set_option maxRecDepth 100000 in
theorem l_X12_count_L137 {Z : jZ} {I0 : jI} {Q : Int32 → jI → jL → Prop} (w0 : WD Z I0) (v0 : Nat) (v1 : Int32) (kv0 : jk Z v0 12) (v3 : Int32) (hQ : ∀ (r : Int32) (I' : jI) (L' : jL), WD Z I' → FR Ws_X12_count Z I0 Z I' → Q r I' L') {K128 : Nat → Int32 → Int32 → jI → jL → Prop} {N128 : Int} (hK128 : ∀ (v2 : Int32) (v3 : Int32) (I : jI) (L : jL), WD Z I → FR Ws_X12_count Z I0 Z I →   (0 ≤ v3.toInt ∧ v3.toInt ≤ 8) → 8 - v3.toInt < N128 → K128 v0 v2 v3 I L) : ∀ (n : Nat) (v2 : Int32) (v4 : Int32) (I : jI) (L : jL), WD Z I → FR Ws_X12_count Z I0 Z I →   (0 ≤ v3.toInt ∧ v3.toInt ≤ 7 ∧ 0 ≤ v4.toInt ∧ v4.toInt ≤ v3.toInt) → 8 - v3.toInt ≤ N128 → 8 - v4.toInt < (n : Int) → f_X12_count_L137 K128 Z Q n v0 v2 v3 v4 I L := by
  intro n
  induction n with
  | zero =>
    intro v2 v4 I L w_I q_I   li hm128 me
    exfalso
    omega
  | succ n ih =>
    intro v2 v4 I L w_I q_I   li hm128 me
    unfold f_X12_count_L137
    have rv2 := i_rng v2
    have rv4 := i_rng v4
    have rv3 := i_rng v3
    have rv1 := i_rng v1
    refine ⟨fun c9 => ?_, fun c9 => ?_⟩
    · skip
      first | (have t10 : v3.toInt ≤ v4.toInt := (i_le rfl rfl).mp c9) | (have t10 : v3.toInt ≤ v4.toInt := (i_le rfl rfl).mp c9) | skip
      intro x11 ex11
      have rx11 := i_rng x11
      first | (have tx11 : x11.toInt = v3.toInt + (1) := by (rw [ex11]; exact (i_add rfl (show (1 : Int32).toInt = 1 from rfl) (by omega) (by omega)))) | skip
      exact hK128 v2 x11 I L w_I q_I   (by omega)  (by omega)
    · skip
      first | (have t12 : ¬ (v3.toInt ≤ v4.toInt) := (not_congr (i_le rfl rfl)).mp c9) | (have t12 : ¬ (v3.toInt ≤ v4.toInt) := (not_congr (i_le rfl rfl)).mp c9) | skip
      intro b13 eb13
      obtain ⟨x14, ex14, kb13, lb13⟩ := sh_f w_I.1 kv0 (j := 6) (k := 16) (m := 64) rfl
      cases eb13.symm.trans ex14
      have o15 : vp_in (((8 : Int32) * v3) + v4) 64 := vi_of (i_add (i_mul (show (8 : Int32).toInt = 8 from rfl) rfl (by omega) (by omega)) rfl (by omega) (by omega)) (by omega) (by omega)
      refine ⟨o15, ?_⟩
      refine ⟨fun c16 => ?_, fun c16 => ?_⟩
      · skip
        first | (have t17 : (I b13 (((8 : Int32) * v3) + v4).toNatClampNeg).toInt = (0) := (i_eq rfl (show (0 : Int32).toInt = 0 from rfl)).mp c16) | (have t17 : (I b13 (((8 : Int32) * v3) + v4).toNatClampNeg).toInt = (0 : Int32).toInt := (i_eq rfl rfl).mp c16) | skip
        unfold f_X12_count_b164
        intro x18 ex18
        have rx18 := i_rng x18
        first | (have tx18 : x18.toInt = (v2.toInt + (0)) := by (rw [ex18]; exact (i_add rfl (show (0 : Int32).toInt = 0 from rfl) (by omega) (by omega)))) | (have tx18 : x18.toInt = (v2 + (0 : Int32)).toInt := by rw [ex18])
        intro x19 ex19
        have rx19 := i_rng x19
        first | (have tx19 : x19.toInt = v4.toInt + (1) := by (rw [ex19]; exact (i_add rfl (show (1 : Int32).toInt = 1 from rfl) (by omega) (by omega)))) | skip
        exact ih x18 x19 I L w_I q_I   (by omega) (by omega) (by omega)
      · skip
        first | (have t20 : ¬ ((I b13 (((8 : Int32) * v3) + v4).toNatClampNeg).toInt = (0)) := (not_congr (i_eq rfl (show (0 : Int32).toInt = 0 from rfl))).mp c16) | (have t20 : ¬ ((I b13 (((8 : Int32) * v3) + v4).toNatClampNeg).toInt = (0 : Int32).toInt) := (not_congr (i_eq rfl rfl)).mp c16) | skip
        unfold f_X12_count_b164
        intro x21 ex21
        have rx21 := i_rng x21
        first | (have tx21 : x21.toInt = (v2.toInt + (1)) := by (rw [ex21]; exact (i_add rfl (show (1 : Int32).toInt = 1 from rfl) (by omega) (by omega)))) | (have tx21 : x21.toInt = (v2 + (1 : Int32)).toInt := by rw [ex21])
        intro x22 ex22
        have rx22 := i_rng x22
        first | (have tx22 : x22.toInt = v4.toInt + (1) := by (rw [ex22]; exact (i_add rfl (show (1 : Int32).toInt = 1 from rfl) (by omega) (by omega)))) | skip
        exact ih x21 x22 I L w_I q_I   (by omega) (by omega) (by omega)
set_option maxHeartbeats 4000000 in
set_option maxRecDepth 100000 in
theorem l_X12_count_L128 {Z : jZ} {I0 : jI} {Q : Int32 → jI → jL → Prop} (w0 : WD Z I0) (v0 : Nat) (v1 : Int32) (kv0 : jk Z v0 12) (hQ : ∀ (r : Int32) (I' : jI) (L' : jL), WD Z I' → FR Ws_X12_count Z I0 Z I' → Q r I' L') : ∀ (n : Nat) (v2 : Int32) (v3 : Int32) (I : jI) (L : jL), WD Z I → FR Ws_X12_count Z I0 Z I →   (0 ≤ v3.toInt ∧ v3.toInt ≤ 8) → 8 - v3.toInt < (n : Int) → f_X12_count_L128  Z Q n v0 v2 v3 I L := by
  intro n
  induction n with
  | zero =>
    intro v2 v3 I L w_I q_I   li  me
    exfalso
    omega
  | succ n ih =>
    intro v2 v3 I L w_I q_I   li  me
    unfold f_X12_count_L128
    have rv2 := i_rng v2
    have rv3 := i_rng v3
    have rv1 := i_rng v1
    refine ⟨fun c23 => ?_, fun c23 => ?_⟩
    · skip
      first | (have t24 : (8) ≤ v3.toInt := (i_le (show (8 : Int32).toInt = 8 from rfl) rfl).mp c23) | (have t24 : (8 : Int32).toInt ≤ v3.toInt := (i_le rfl rfl).mp c23) | skip
      exact hQ v2 I L w_I q_I 
    · skip
      first | (have t25 : ¬ ((8) ≤ v3.toInt) := (not_congr (i_le (show (8 : Int32).toInt = 8 from rfl) rfl)).mp c23) | (have t25 : ¬ ((8 : Int32).toInt ≤ v3.toInt) := (not_congr (i_le rfl rfl)).mp c23) | skip
      have t26 : (0 : Int32).toInt = 0 := rfl
      exact ⟨(8 - (0 : Int32).toInt).toNat + 1, l_X12_count_L137 w0 v0 v1 kv0 v3  hQ ih  _ v2 (0 : Int32) I L w_I q_I   (by omega) (by omega) (by omega)⟩
set_option maxHeartbeats 4000000 in
set_option maxRecDepth 100000 in
theorem s_X12_count {Z : jZ} {I : jI} {L : jL} (w_I : WD Z I) (v0 : Nat) (v1 : Int32) (kv0 : jk Z v0 12) {Q : Int32 → jI → jL → Prop} (hQ : ∀ (r : Int32) (I' : jI) (L' : jL), WD Z I' → FR Ws_X12_count Z I Z I' → Q r I' L') : f_X12_count v0 v1 Z I L Q := by
  unfold f_X12_count
  have q_I : FR Ws_X12_count Z I Z I := FR.rf
  have rv1 := i_rng v1
  intro I27 eI27
  have t28 : (0 : Int32).toInt = 0 := rfl
  have w_I27 : WD Z I27 := by rw [eI27]; exact WD_putF w_I 12 22 kv0 (by decide) (by decide) trivial
  have f_I27 : FR [(12, 22)] Z I Z I27 := by rw [eI27]; exact FR_putF kv0 (by decide) List.mem_cons_self
  have q_I27 : FR Ws_X12_count Z I Z I27 := q_I.trans w_I.1 w_I.2.1 (f_I27.mono (by decide))
  first | (have u29 : (I27 v0 22).toInt = (0) := by (rw [eI27, show jpI I v0 22 (0 : Int32) v0 22 = (0 : Int32) from jpI_at] <;> exact (show (0 : Int32).toInt = 0 from rfl))) | skip
  refine ⟨fun c30 => ?_, fun c30 => ?_⟩
  · skip
    first | (have t31 : v1.toInt = (0) := (i_eq rfl (show (0 : Int32).toInt = 0 from rfl)).mp c30) | (have t31 : v1.toInt = (0 : Int32).toInt := (i_eq rfl rfl).mp c30) | skip
    have t33 : 0 ≤ (I27 v0 0).toInt ∧ (I27 v0 0).toInt ≤ 24 := w_I27.fld 12 0 kv0 (by decide)
    exact hQ (I27 v0 0) I27 L w_I27 q_I27 
  · skip
    first | (have t34 : ¬ (v1.toInt = (0)) := (not_congr (i_eq rfl (show (0 : Int32).toInt = 0 from rfl))).mp c30) | (have t34 : ¬ (v1.toInt = (0 : Int32).toInt) := (not_congr (i_eq rfl rfl)).mp c30) | skip
    refine ⟨fun c35 => ?_, fun c35 => ?_⟩
    · skip
      first | (have t36 : v1.toInt = (1) := (i_eq rfl (show (1 : Int32).toInt = 1 from rfl)).mp c35) | (have t36 : v1.toInt = (1 : Int32).toInt := (i_eq rfl rfl).mp c35) | skip
      have t38 : 0 ≤ (I27 v0 8).toInt ∧ (I27 v0 8).toInt ≤ 6 := w_I27.fld 12 8 kv0 (by decide)
      exact hQ (I27 v0 8) I27 L w_I27 q_I27 
    · skip
      first | (have t39 : ¬ (v1.toInt = (1)) := (not_congr (i_eq rfl (show (1 : Int32).toInt = 1 from rfl))).mp c35) | (have t39 : ¬ (v1.toInt = (1 : Int32).toInt) := (not_congr (i_eq rfl rfl)).mp c35) | skip
      refine ⟨fun c40 => ?_, fun c40 => ?_⟩
      · skip
        first | (have t41 : v1.toInt = (2) := (i_eq rfl (show (2 : Int32).toInt = 2 from rfl)).mp c40) | (have t41 : v1.toInt = (2 : Int32).toInt := (i_eq rfl rfl).mp c40) | skip
        intro b42 eb42
        obtain ⟨x43, ex43, kb42, lb42⟩ := sh_f w_I27.1 kv0 (j := 30) (k := 14) (m := 2) rfl
        cases eb42.symm.trans ex43
        have t44 : 0 ≤ (I27 b42 (0 : Int32).toNatClampNeg).toInt ∧ (I27 b42 (0 : Int32).toNatClampNeg).toInt ≤ 40 := w_I27.arr 12 30 kv0 eb42 kb42 rfl rfl _
        refine ⟨fun c45 => ?_, fun c45 => ?_⟩
        · skip
          first | (have t46 : (I27 b42 (0 : Int32).toNatClampNeg).toInt ≤ (0) := (i_le rfl (show (0 : Int32).toInt = 0 from rfl)).mp c45) | (have t46 : (I27 b42 (0 : Int32).toNatClampNeg).toInt ≤ (0 : Int32).toInt := (i_le rfl rfl).mp c45) | skip
          unfold f_X12_count_b80
          intro b47 eb47
          obtain rfl : b42 = b47 := Option.some.inj (eb42.symm.trans eb47)
          have t48 : 0 ≤ (I27 b42 (1 : Int32).toNatClampNeg).toInt ∧ (I27 b42 (1 : Int32).toNatClampNeg).toInt ≤ 40 := w_I27.arr 12 30 kv0 eb42 kb42 rfl rfl _
          refine ⟨fun c49 => ?_, fun c49 => ?_⟩
          · skip
            first | (have t50 : (I27 b42 (1 : Int32).toNatClampNeg).toInt ≤ (0) := (i_le rfl (show (0 : Int32).toInt = 0 from rfl)).mp c49) | (have t50 : (I27 b42 (1 : Int32).toNatClampNeg).toInt ≤ (0 : Int32).toInt := (i_le rfl rfl).mp c49) | skip
            unfold f_X12_count_b94
            try (have t51 : ((0 : Int32) + (0 : Int32)).toInt = ((0) + (0)) := (i_add (show (0 : Int32).toInt = 0 from rfl) (show (0 : Int32).toInt = 0 from rfl) (by omega) (by omega)))
            exact hQ ((0 : Int32) + (0 : Int32)) I27 L w_I27 q_I27 
          · skip
            first | (have t52 : ¬ ((I27 b42 (1 : Int32).toNatClampNeg).toInt ≤ (0)) := (not_congr (i_le rfl (show (0 : Int32).toInt = 0 from rfl))).mp c49) | (have t52 : ¬ ((I27 b42 (1 : Int32).toNatClampNeg).toInt ≤ (0 : Int32).toInt) := (not_congr (i_le rfl rfl)).mp c49) | skip
            unfold f_X12_count_b94
            try (have t53 : ((0 : Int32) + (2 : Int32)).toInt = ((0) + (2)) := (i_add (show (0 : Int32).toInt = 0 from rfl) (show (2 : Int32).toInt = 2 from rfl) (by omega) (by omega)))
            exact hQ ((0 : Int32) + (2 : Int32)) I27 L w_I27 q_I27 
        · skip
          first | (have t54 : ¬ ((I27 b42 (0 : Int32).toNatClampNeg).toInt ≤ (0)) := (not_congr (i_le rfl (show (0 : Int32).toInt = 0 from rfl))).mp c45) | (have t54 : ¬ ((I27 b42 (0 : Int32).toNatClampNeg).toInt ≤ (0 : Int32).toInt) := (not_congr (i_le rfl rfl)).mp c45) | skip
          unfold f_X12_count_b80
          intro b55 eb55
          obtain rfl : b42 = b55 := Option.some.inj (eb42.symm.trans eb55)
          have t56 : 0 ≤ (I27 b42 (1 : Int32).toNatClampNeg).toInt ∧ (I27 b42 (1 : Int32).toNatClampNeg).toInt ≤ 40 := w_I27.arr 12 30 kv0 eb42 kb42 rfl rfl _
          refine ⟨fun c57 => ?_, fun c57 => ?_⟩
          · skip
            first | (have t58 : (I27 b42 (1 : Int32).toNatClampNeg).toInt ≤ (0) := (i_le rfl (show (0 : Int32).toInt = 0 from rfl)).mp c57) | (have t58 : (I27 b42 (1 : Int32).toNatClampNeg).toInt ≤ (0 : Int32).toInt := (i_le rfl rfl).mp c57) | skip
            unfold f_X12_count_b94
            try (have t59 : ((1 : Int32) + (0 : Int32)).toInt = ((1) + (0)) := (i_add (show (1 : Int32).toInt = 1 from rfl) (show (0 : Int32).toInt = 0 from rfl) (by omega) (by omega)))
            exact hQ ((1 : Int32) + (0 : Int32)) I27 L w_I27 q_I27 
          · skip
            first | (have t60 : ¬ ((I27 b42 (1 : Int32).toNatClampNeg).toInt ≤ (0)) := (not_congr (i_le rfl (show (0 : Int32).toInt = 0 from rfl))).mp c57) | (have t60 : ¬ ((I27 b42 (1 : Int32).toNatClampNeg).toInt ≤ (0 : Int32).toInt) := (not_congr (i_le rfl rfl)).mp c57) | skip
            unfold f_X12_count_b94
            try (have t61 : ((1 : Int32) + (2 : Int32)).toInt = ((1) + (2)) := (i_add (show (1 : Int32).toInt = 1 from rfl) (show (2 : Int32).toInt = 2 from rfl) (by omega) (by omega)))
            exact hQ ((1 : Int32) + (2 : Int32)) I27 L w_I27 q_I27 
      · skip
        first | (have t62 : ¬ (v1.toInt = (2)) := (not_congr (i_eq rfl (show (2 : Int32).toInt = 2 from rfl))).mp c40) | (have t62 : ¬ (v1.toInt = (2 : Int32).toInt) := (not_congr (i_eq rfl rfl)).mp c40) | skip
        refine ⟨fun c63 => ?_, fun c63 => ?_⟩
        · skip
          first | (have t64 : v1.toInt = (3) := (i_eq rfl (show (3 : Int32).toInt = 3 from rfl)).mp c63) | (have t64 : v1.toInt = (3 : Int32).toInt := (i_eq rfl rfl).mp c63) | skip
          have t66 : 0 ≤ (I27 v0 52).toInt ∧ (I27 v0 52).toInt ≤ 8 := w_I27.fld 12 52 kv0 (by decide)
          exact hQ (I27 v0 52) I27 L w_I27 q_I27 
        · skip
          first | (have t67 : ¬ (v1.toInt = (3)) := (not_congr (i_eq rfl (show (3 : Int32).toInt = 3 from rfl))).mp c63) | (have t67 : ¬ (v1.toInt = (3 : Int32).toInt) := (not_congr (i_eq rfl rfl)).mp c63) | skip
          refine ⟨fun c68 => ?_, fun c68 => ?_⟩
          · skip
            first | (have t69 : v1.toInt = (4) := (i_eq rfl (show (4 : Int32).toInt = 4 from rfl)).mp c68) | (have t69 : v1.toInt = (4 : Int32).toInt := (i_eq rfl rfl).mp c68) | skip
            have t70 : (0 : Int32).toInt = 0 := rfl
            have t71 : (0 : Int32).toInt = 0 := rfl
            exact ⟨(8 - (0 : Int32).toInt).toNat + 1, l_X12_count_L103 w_I v0 v1 kv0   hQ   _ (0 : Int32) (0 : Int32) I27 L w_I27 q_I27   (by omega)  (by omega)⟩
          · skip
            first | (have t72 : ¬ (v1.toInt = (4)) := (not_congr (i_eq rfl (show (4 : Int32).toInt = 4 from rfl))).mp c68) | (have t72 : ¬ (v1.toInt = (4 : Int32).toInt) := (not_congr (i_eq rfl rfl)).mp c68) | skip
            refine ⟨fun c73 => ?_, fun c73 => ?_⟩
            · skip
              first | (have t74 : v1.toInt = (5) := (i_eq rfl (show (5 : Int32).toInt = 5 from rfl)).mp c73) | (have t74 : v1.toInt = (5 : Int32).toInt := (i_eq rfl rfl).mp c73) | skip
              have t75 : (0 : Int32).toInt = 0 := rfl
              have t76 : (0 : Int32).toInt = 0 := rfl
              exact ⟨(8 - (0 : Int32).toInt).toNat + 1, l_X12_count_L128 w_I v0 v1 kv0   hQ   _ (0 : Int32) (0 : Int32) I27 L w_I27 q_I27   (by omega)  (by omega)⟩
            · skip
              first | (have t77 : ¬ (v1.toInt = (5)) := (not_congr (i_eq rfl (show (5 : Int32).toInt = 5 from rfl))).mp c73) | (have t77 : ¬ (v1.toInt = (5 : Int32).toInt) := (not_congr (i_eq rfl rfl)).mp c73) | skip
              refine ⟨fun c78 => ?_, fun c78 => ?_⟩
              · skip
                first | (have t79 : v1.toInt = (6) := (i_eq rfl (show (6 : Int32).toInt = 6 from rfl)).mp c78) | (have t79 : v1.toInt = (6 : Int32).toInt := (i_eq rfl rfl).mp c78) | skip
                have t81 : 0 ≤ (I27 v0 21).toInt ∧ (I27 v0 21).toInt ≤ 40 := w_I27.fld 12 21 kv0 (by decide)
                exact hQ (I27 v0 21) I27 L w_I27 q_I27 
              · skip
                first | (have t82 : ¬ (v1.toInt = (6)) := (not_congr (i_eq rfl (show (6 : Int32).toInt = 6 from rfl))).mp c78) | (have t82 : ¬ (v1.toInt = (6 : Int32).toInt) := (not_congr (i_eq rfl rfl)).mp c78) | skip
                refine ⟨fun c83 => ?_, fun c83 => ?_⟩
                · skip
                  first | (have t84 : v1.toInt = (7) := (i_eq rfl (show (7 : Int32).toInt = 7 from rfl)).mp c83) | (have t84 : v1.toInt = (7 : Int32).toInt := (i_eq rfl rfl).mp c83) | skip
                  have t86 : 0 ≤ (I27 v0 19).toInt ∧ (I27 v0 19).toInt ≤ 80 := w_I27.fld 12 19 kv0 (by decide)
                  exact hQ (I27 v0 19) I27 L w_I27 q_I27 
                · skip
                  first | (have t87 : ¬ (v1.toInt = (7)) := (not_congr (i_eq rfl (show (7 : Int32).toInt = 7 from rfl))).mp c83) | (have t87 : ¬ (v1.toInt = (7 : Int32).toInt) := (not_congr (i_eq rfl rfl)).mp c83) | skip
                  have t88 : (-1 : Int32).toInt = -1 := rfl
                  exact hQ (-1 : Int32) I27 L w_I27 q_I27 
