/-! ===== keep and again: the loops ===== -/
set_option maxHeartbeats 4000000 in
set_option maxRecDepth 100000 in
theorem l11_X12_keep_L157 {Z : jZ} {I0 : jI} {Q : Int32 → jI → jL → Prop} (w0 : WD Z I0) (v0 : Nat) (v1 : Int32) (kv0 : jk Z v0 12) (hQ : ∀ (r : Int32) (I' : jI) (L' : jL), WD Z I' → FR Ws_X12_put Z I0 Z I' → ((r.toInt = 1 ∧ 0 ≤ v1.toInt ∧ v1.toInt ≤ 1) ∨ (r.toInt = 0 ∧ ¬ (0 ≤ v1.toInt ∧ v1.toInt ≤ 1))) → Q r I' L') : ∀ (n : Nat) (v2 : Int32) (I : jI) (L : jL), WD Z I → FR Ws_X12_put Z I0 Z I →   (0 ≤ v2.toInt ∧ v2.toInt ≤ 8 ∧ (I v0 66).toInt = 266 * v1.toInt + 258 + 1 * v2.toInt ∧ 0 ≤ v1.toInt ∧ v1.toInt ≤ 1) → 8 - v2.toInt < (n : Int) → f_X12_keep_L157  Z Q n v0 v2 I L := by
  intro n
  induction n with
  | zero =>
    intro v2 I L w_I q_I   li  me
    exfalso
    omega
  | succ n ih =>
    intro v2 I L w_I q_I   li  me
    unfold f_X12_keep_L157
    have rv2 := i_rng v2
    have rv1 := i_rng v1
    refine ⟨fun c1 => ?_, fun c1 => ?_⟩
    · skip
      first | (have t2 : (8) ≤ v2.toInt := (i_le (show (8 : Int32).toInt = 8 from rfl) rfl).mp c1) | (have t2 : (8 : Int32).toInt ≤ v2.toInt := (i_le rfl rfl).mp c1) | skip
      have t3 : (1 : Int32).toInt = 1 := rfl
      exact hQ (1 : Int32) I L w_I q_I (by omega)
    · skip
      first | (have t4 : ¬ ((8) ≤ v2.toInt) := (not_congr (i_le (show (8 : Int32).toInt = 8 from rfl) rfl)).mp c1) | (have t4 : ¬ ((8 : Int32).toInt ≤ v2.toInt) := (not_congr (i_le rfl rfl)).mp c1) | skip
      intro b5 eb5
      obtain ⟨x6, ex6, kb5, lb5⟩ := sh_f w_I.1 kv0 (j := 17) (k := 14) (m := 8) rfl
      cases eb5.symm.trans ex6
      have o7 : vp_in v2 8 := vi_of rfl (by omega) (by omega)
      refine ⟨o7, ?_⟩
      refine s_X12_put w_I v0 (I b5 v2.toNatClampNeg) kv0  (by omega) (by exact ptF (k := v1.toInt) (m := (I v0 66).toInt - 266 * v1.toInt) (by omega) (by omega) (by omega) (by refine ⟨?_, ?_, ?_⟩ <;> intros <;> (constructor <;> omega))) (fun  I9 L10 w_I9 f_I9 p8 => ?_)
      have q_I9 : FR Ws_X12_put Z I0 Z I9 := q_I.trans w0.1 w0.2.1 (f_I9.mono (by decide))
      intro x11 ex11
      have rx11 := i_rng x11
      first | (have tx11 : x11.toInt = v2.toInt + (1) := by (rw [ex11]; exact (i_add rfl (show (1 : Int32).toInt = 1 from rfl) (by omega) (by omega)))) | skip
      exact ih x11 I9 L10 w_I9 q_I9   (by omega)  (by omega)
set_option maxHeartbeats 4000000 in
set_option maxRecDepth 100000 in
theorem l11_X12_keep_L113 {Z : jZ} {I0 : jI} {Q : Int32 → jI → jL → Prop} (w0 : WD Z I0) (v0 : Nat) (v1 : Int32) (kv0 : jk Z v0 12) (hQ : ∀ (r : Int32) (I' : jI) (L' : jL), WD Z I' → FR Ws_X12_put Z I0 Z I' → ((r.toInt = 1 ∧ 0 ≤ v1.toInt ∧ v1.toInt ≤ 1) ∨ (r.toInt = 0 ∧ ¬ (0 ≤ v1.toInt ∧ v1.toInt ≤ 1))) → Q r I' L') : ∀ (n : Nat) (v2 : Int32) (I : jI) (L : jL), WD Z I → FR Ws_X12_put Z I0 Z I →   (0 ≤ v2.toInt ∧ v2.toInt ≤ 6 ∧ (I v0 66).toInt = 266 * v1.toInt + 240 + 3 * v2.toInt ∧ 0 ≤ v1.toInt ∧ v1.toInt ≤ 1) → 6 - v2.toInt < (n : Int) → f_X12_keep_L113  Z Q n v0 v2 I L := by
  intro n
  induction n with
  | zero =>
    intro v2 I L w_I q_I   li  me
    exfalso
    omega
  | succ n ih =>
    intro v2 I L w_I q_I   li  me
    unfold f_X12_keep_L113
    have rv2 := i_rng v2
    have rv1 := i_rng v1
    refine ⟨fun c12 => ?_, fun c12 => ?_⟩
    · skip
      first | (have t13 : (6) ≤ v2.toInt := (i_le (show (6 : Int32).toInt = 6 from rfl) rfl).mp c12) | (have t13 : (6 : Int32).toInt ≤ v2.toInt := (i_le rfl rfl).mp c12) | skip
      have t14 : (0 : Int32).toInt = 0 := rfl
      exact ⟨(8 - (0 : Int32).toInt).toNat + 1, l11_X12_keep_L157 w0 v0 v1 kv0   hQ   _ (0 : Int32) I L w_I q_I   (by omega)  (by omega)⟩
    · skip
      first | (have t15 : ¬ ((6) ≤ v2.toInt) := (not_congr (i_le (show (6 : Int32).toInt = 6 from rfl) rfl)).mp c12) | (have t15 : ¬ ((6 : Int32).toInt ≤ v2.toInt) := (not_congr (i_le rfl rfl)).mp c12) | skip
      intro b16 eb16
      obtain ⟨x17, ex17, kb16, lb16⟩ := sh_f w_I.1 kv0 (j := 14) (k := 14) (m := 6) rfl
      cases eb16.symm.trans ex17
      have o18 : vp_in v2 6 := vi_of rfl (by omega) (by omega)
      refine ⟨o18, ?_⟩
      have t19 : -1 ≤ (I b16 v2.toNatClampNeg).toInt ∧ (I b16 v2.toNatClampNeg).toInt ≤ 23 := w_I.arr 12 14 kv0 eb16 kb16 rfl rfl _
      refine s_X12_put w_I v0 (I b16 v2.toNatClampNeg) kv0  (by omega) (by exact ptF (k := v1.toInt) (m := (I v0 66).toInt - 266 * v1.toInt) (by omega) (by omega) (by omega) (by refine ⟨?_, ?_, ?_⟩ <;> intros <;> (constructor <;> omega))) (fun  I21 L22 w_I21 f_I21 p20 => ?_)
      have q_I21 : FR Ws_X12_put Z I0 Z I21 := q_I.trans w0.1 w0.2.1 (f_I21.mono (by decide))
      intro b23 eb23
      obtain ⟨x24, ex24, kb23, lb23⟩ := sh_f w_I21.1 kv0 (j := 15) (k := 14) (m := 6) rfl
      cases eb23.symm.trans ex24
      have o25 : vp_in v2 6 := vi_of rfl (by omega) (by omega)
      refine ⟨o25, ?_⟩
      refine s_X12_put w_I21 v0 (I21 b23 v2.toNatClampNeg) kv0  (by omega) (by exact ptF (k := v1.toInt) (m := (I21 v0 66).toInt - 266 * v1.toInt) (by omega) (by omega) (by omega) (by refine ⟨?_, ?_, ?_⟩ <;> intros <;> (constructor <;> omega))) (fun  I27 L28 w_I27 f_I27 p26 => ?_)
      have q_I27 : FR Ws_X12_put Z I0 Z I27 := q_I21.trans w0.1 w0.2.1 (f_I27.mono (by decide))
      intro b29 eb29
      obtain ⟨x30, ex30, kb29, lb29⟩ := sh_f w_I27.1 kv0 (j := 16) (k := 14) (m := 6) rfl
      cases eb29.symm.trans ex30
      have o31 : vp_in v2 6 := vi_of rfl (by omega) (by omega)
      refine ⟨o31, ?_⟩
      refine s_X12_put w_I27 v0 (I27 b29 v2.toNatClampNeg) kv0  (by omega) (by exact ptF (k := v1.toInt) (m := (I27 v0 66).toInt - 266 * v1.toInt) (by omega) (by omega) (by omega) (by refine ⟨?_, ?_, ?_⟩ <;> intros <;> (constructor <;> omega))) (fun  I33 L34 w_I33 f_I33 p32 => ?_)
      have q_I33 : FR Ws_X12_put Z I0 Z I33 := q_I27.trans w0.1 w0.2.1 (f_I33.mono (by decide))
      intro x35 ex35
      have rx35 := i_rng x35
      first | (have tx35 : x35.toInt = v2.toInt + (1) := by (rw [ex35]; exact (i_add rfl (show (1 : Int32).toInt = 1 from rfl) (by omega) (by omega)))) | skip
      exact ih x35 I33 L34 w_I33 q_I33   (by omega)  (by omega)
set_option maxHeartbeats 4000000 in
set_option maxRecDepth 100000 in
theorem l11_X12_keep_L88 {Z : jZ} {I0 : jI} {Q : Int32 → jI → jL → Prop} (w0 : WD Z I0) (v0 : Nat) (v1 : Int32) (kv0 : jk Z v0 12) (hQ : ∀ (r : Int32) (I' : jI) (L' : jL), WD Z I' → FR Ws_X12_put Z I0 Z I' → ((r.toInt = 1 ∧ 0 ≤ v1.toInt ∧ v1.toInt ≤ 1) ∨ (r.toInt = 0 ∧ ¬ (0 ≤ v1.toInt ∧ v1.toInt ≤ 1))) → Q r I' L') : ∀ (n : Nat) (v2 : Int32) (I : jI) (L : jL), WD Z I → FR Ws_X12_put Z I0 Z I →   (0 ≤ v2.toInt ∧ v2.toInt ≤ 192 ∧ (I v0 66).toInt = 266 * v1.toInt + 48 + 1 * v2.toInt ∧ 0 ≤ v1.toInt ∧ v1.toInt ≤ 1) → 192 - v2.toInt < (n : Int) → f_X12_keep_L88  Z Q n v0 v2 I L := by
  intro n
  induction n with
  | zero =>
    intro v2 I L w_I q_I   li  me
    exfalso
    omega
  | succ n ih =>
    intro v2 I L w_I q_I   li  me
    unfold f_X12_keep_L88
    have rv2 := i_rng v2
    have rv1 := i_rng v1
    refine ⟨fun c36 => ?_, fun c36 => ?_⟩
    · skip
      first | (have t37 : (192) ≤ v2.toInt := (i_le (show (192 : Int32).toInt = 192 from rfl) rfl).mp c36) | (have t37 : (192 : Int32).toInt ≤ v2.toInt := (i_le rfl rfl).mp c36) | skip
      have t38 : (0 : Int32).toInt = 0 := rfl
      exact ⟨(6 - (0 : Int32).toInt).toNat + 1, l11_X12_keep_L113 w0 v0 v1 kv0   hQ   _ (0 : Int32) I L w_I q_I   (by omega)  (by omega)⟩
    · skip
      first | (have t39 : ¬ ((192) ≤ v2.toInt) := (not_congr (i_le (show (192 : Int32).toInt = 192 from rfl) rfl)).mp c36) | (have t39 : ¬ ((192 : Int32).toInt ≤ v2.toInt) := (not_congr (i_le rfl rfl)).mp c36) | skip
      intro b40 eb40
      obtain ⟨x41, ex41, kb40, lb40⟩ := sh_f w_I.1 kv0 (j := 5) (k := 14) (m := 192) rfl
      cases eb40.symm.trans ex41
      have o42 : vp_in v2 192 := vi_of rfl (by omega) (by omega)
      refine ⟨o42, ?_⟩
      refine s_X12_put w_I v0 (I b40 v2.toNatClampNeg) kv0  (by omega) (by exact ptF (k := v1.toInt) (m := (I v0 66).toInt - 266 * v1.toInt) (by omega) (by omega) (by omega) (by refine ⟨?_, ?_, ?_⟩ <;> intros <;> (constructor <;> omega))) (fun  I44 L45 w_I44 f_I44 p43 => ?_)
      have q_I44 : FR Ws_X12_put Z I0 Z I44 := q_I.trans w0.1 w0.2.1 (f_I44.mono (by decide))
      intro x46 ex46
      have rx46 := i_rng x46
      first | (have tx46 : x46.toInt = v2.toInt + (1) := by (rw [ex46]; exact (i_add rfl (show (1 : Int32).toInt = 1 from rfl) (by omega) (by omega)))) | skip
      exact ih x46 I44 L45 w_I44 q_I44   (by omega)  (by omega)
set_option maxHeartbeats 4000000 in
set_option maxRecDepth 100000 in
theorem l11_X12_keep_L54 {Z : jZ} {I0 : jI} {Q : Int32 → jI → jL → Prop} (w0 : WD Z I0) (v0 : Nat) (v1 : Int32) (kv0 : jk Z v0 12) (hQ : ∀ (r : Int32) (I' : jI) (L' : jL), WD Z I' → FR Ws_X12_put Z I0 Z I' → ((r.toInt = 1 ∧ 0 ≤ v1.toInt ∧ v1.toInt ≤ 1) ∨ (r.toInt = 0 ∧ ¬ (0 ≤ v1.toInt ∧ v1.toInt ≤ 1))) → Q r I' L') : ∀ (n : Nat) (v2 : Int32) (I : jI) (L : jL), WD Z I → FR Ws_X12_put Z I0 Z I →   (0 ≤ v2.toInt ∧ v2.toInt ≤ 24 ∧ (I v0 66).toInt = 266 * v1.toInt + 0 + 2 * v2.toInt ∧ 0 ≤ v1.toInt ∧ v1.toInt ≤ 1) → 24 - v2.toInt < (n : Int) → f_X12_keep_L54  Z Q n v0 v2 I L := by
  intro n
  induction n with
  | zero =>
    intro v2 I L w_I q_I   li  me
    exfalso
    omega
  | succ n ih =>
    intro v2 I L w_I q_I   li  me
    unfold f_X12_keep_L54
    have rv2 := i_rng v2
    have rv1 := i_rng v1
    refine ⟨fun c47 => ?_, fun c47 => ?_⟩
    · skip
      first | (have t48 : (24) ≤ v2.toInt := (i_le (show (24 : Int32).toInt = 24 from rfl) rfl).mp c47) | (have t48 : (24 : Int32).toInt ≤ v2.toInt := (i_le rfl rfl).mp c47) | skip
      have t49 : (0 : Int32).toInt = 0 := rfl
      exact ⟨(192 - (0 : Int32).toInt).toNat + 1, l11_X12_keep_L88 w0 v0 v1 kv0   hQ   _ (0 : Int32) I L w_I q_I   (by omega)  (by omega)⟩
    · skip
      first | (have t50 : ¬ ((24) ≤ v2.toInt) := (not_congr (i_le (show (24 : Int32).toInt = 24 from rfl) rfl)).mp c47) | (have t50 : ¬ ((24 : Int32).toInt ≤ v2.toInt) := (not_congr (i_le rfl rfl)).mp c47) | skip
      intro b51 eb51
      obtain ⟨x52, ex52, kb51, lb51⟩ := sh_f w_I.1 kv0 (j := 2) (k := 14) (m := 24) rfl
      cases eb51.symm.trans ex52
      have o53 : vp_in v2 24 := vi_of rfl (by omega) (by omega)
      refine ⟨o53, ?_⟩
      have t54 : 0 ≤ (I b51 v2.toNatClampNeg).toInt ∧ (I b51 v2.toNatClampNeg).toInt ≤ 9 := w_I.arr 12 2 kv0 eb51 kb51 rfl rfl _
      refine s_X12_put w_I v0 (I b51 v2.toNatClampNeg) kv0  (by omega) (by exact ptF (k := v1.toInt) (m := (I v0 66).toInt - 266 * v1.toInt) (by omega) (by omega) (by omega) (by refine ⟨?_, ?_, ?_⟩ <;> intros <;> (constructor <;> omega))) (fun  I56 L57 w_I56 f_I56 p55 => ?_)
      have q_I56 : FR Ws_X12_put Z I0 Z I56 := q_I.trans w0.1 w0.2.1 (f_I56.mono (by decide))
      intro b58 eb58
      obtain ⟨x59, ex59, kb58, lb58⟩ := sh_f w_I56.1 kv0 (j := 3) (k := 14) (m := 24) rfl
      cases eb58.symm.trans ex59
      have o60 : vp_in v2 24 := vi_of rfl (by omega) (by omega)
      refine ⟨o60, ?_⟩
      have t61 : 0 ≤ (I56 b58 v2.toNatClampNeg).toInt ∧ (I56 b58 v2.toNatClampNeg).toInt ≤ 20 := w_I56.arr 12 3 kv0 eb58 kb58 rfl rfl _
      refine s_X12_put w_I56 v0 (I56 b58 v2.toNatClampNeg) kv0  (by omega) (by exact ptF (k := v1.toInt) (m := (I56 v0 66).toInt - 266 * v1.toInt) (by omega) (by omega) (by omega) (by refine ⟨?_, ?_, ?_⟩ <;> intros <;> (constructor <;> omega))) (fun  I63 L64 w_I63 f_I63 p62 => ?_)
      have q_I63 : FR Ws_X12_put Z I0 Z I63 := q_I56.trans w0.1 w0.2.1 (f_I63.mono (by decide))
      intro x65 ex65
      have rx65 := i_rng x65
      first | (have tx65 : x65.toInt = v2.toInt + (1) := by (rw [ex65]; exact (i_add rfl (show (1 : Int32).toInt = 1 from rfl) (by omega) (by omega)))) | skip
      exact ih x65 I63 L64 w_I63 q_I63   (by omega)  (by omega)
set_option maxHeartbeats 4000000 in
set_option maxRecDepth 100000 in
theorem l11_X12_again_L175 {Z : jZ} {I0 : jI} {Q : Int32 → jI → jL → Prop} (w0 : WD Z I0) (v0 : Nat) (v1 : Int32) (kv0 : jk Z v0 12) (hQ : ∀ (I' : jI) (L' : jL), WD Z I' → FR Ws_X12_again Z I0 Z I' → Q (1 : Int32) I' L') : ∀ (n : Nat) (v2 : Int32) (I : jI) (L : jL), WD Z I → FR Ws_X12_again Z I0 Z I →   (0 ≤ v2.toInt ∧ v2.toInt ≤ 8 ∧ (I v0 66).toInt = 266 * v1.toInt + 258 + 1 * v2.toInt ∧ 0 ≤ v1.toInt ∧ v1.toInt ≤ 1) → 8 - v2.toInt < (n : Int) → f_X12_again_L175  Z Q n v0 v2 I L := by
  intro n
  induction n with
  | zero =>
    intro v2 I L w_I q_I   li  me
    exfalso
    omega
  | succ n ih =>
    intro v2 I L w_I q_I   li  me
    unfold f_X12_again_L175
    have rv2 := i_rng v2
    have rv1 := i_rng v1
    refine ⟨fun c1 => ?_, fun c1 => ?_⟩
    · skip
      first | (have t2 : (8) ≤ v2.toInt := (i_le (show (8 : Int32).toInt = 8 from rfl) rfl).mp c1) | (have t2 : (8 : Int32).toInt ≤ v2.toInt := (i_le rfl rfl).mp c1) | skip
      intro I3 eI3
      have t4 : (0 : Int32).toInt = 0 := rfl
      have w_I3 : WD Z I3 := by rw [eI3]; exact WD_putF w_I 12 52 kv0 (by decide) (by decide) (by constructor <;> omega)
      have f_I3 : FR [(12, 52)] Z I Z I3 := by rw [eI3]; exact FR_putF kv0 (by decide) List.mem_cons_self
      have q_I3 : FR Ws_X12_again Z I0 Z I3 := q_I.trans w0.1 w0.2.1 (f_I3.mono (by decide))
      have u5 : (I3 v0 66).toInt = (I v0 66).toInt := by rw [f_I3.2.2.1 v0 12 66 kv0 (by decide) (by decide)]
      first | (have u6 : (I3 v0 52).toInt = (0) := by (rw [eI3, show jpI I v0 52 (0 : Int32) v0 52 = (0 : Int32) from jpI_at] <;> exact (show (0 : Int32).toInt = 0 from rfl))) | skip
      have t7 : (1 : Int32).toInt = 1 := rfl
      exact hQ I3 L w_I3 q_I3 
    · skip
      first | (have t8 : ¬ ((8) ≤ v2.toInt) := (not_congr (i_le (show (8 : Int32).toInt = 8 from rfl) rfl)).mp c1) | (have t8 : ¬ ((8 : Int32).toInt ≤ v2.toInt) := (not_congr (i_le rfl rfl)).mp c1) | skip
      intro b9 eb9
      obtain ⟨x10, ex10, kb9, lb9⟩ := sh_f w_I.1 kv0 (j := 17) (k := 14) (m := 8) rfl
      cases eb9.symm.trans ex10
      refine s_X12_take w_I v0 kv0  (by omega) (fun r11 I13 L14 w_I13 f_I13 p12 => ?_)
      have q_I13 : FR Ws_X12_again Z I0 Z I13 := q_I.trans w0.1 w0.2.1 (f_I13.mono (by decide))
      have h15 := tkF (k := v1.toInt) (m := (I v0 66).toInt - 266 * v1.toInt) p12.2 (by omega) (by omega) (by omega)
      first | (have h151 := h15.1 (by omega) (by omega)) | (have h151 := h15.2.1 (by omega) (by omega)) | (have h151 := h15.2.2 (by omega) (by omega) (by omega)) | skip
      clear h15
      obtain ⟨p12_0, p12_1⟩ := p12
      have rr11 := i_rng r11
      have o16 : vp_in v2 8 := vi_of rfl (by omega) (by omega)
      refine ⟨o16, ?_⟩
      intro I17 eI17
      have w_I17 : WD Z I17 := by rw [eI17]; exact WD_putA w_I13 12 17 kv0 eb9 kb9 rfl rfl (by decide) trivial
      have f_I17 : FR [(12, 17)] Z I13 Z I17 := by rw [eI17]; exact FR_upA w_I13.2.1 kv0 eb9 kb9 rfl rfl List.mem_cons_self
      have q_I17 : FR Ws_X12_again Z I0 Z I17 := q_I13.trans w0.1 w0.2.1 (f_I17.mono (by decide))
      have u18 : (I17 v0 66).toInt = (I13 v0 66).toInt := by rw [f_I17.2.2.1 v0 12 66 kv0 (by decide) (by decide)]
      intro x19 ex19
      have rx19 := i_rng x19
      first | (have tx19 : x19.toInt = v2.toInt + (1) := by (rw [ex19]; exact (i_add rfl (show (1 : Int32).toInt = 1 from rfl) (by omega) (by omega)))) | skip
      exact ih x19 I17 L14 w_I17 q_I17   (by omega)  (by omega)
set_option maxHeartbeats 4000000 in
set_option maxRecDepth 100000 in
theorem l11_X12_again_L108 {Z : jZ} {I0 : jI} {Q : Int32 → jI → jL → Prop} (w0 : WD Z I0) (v0 : Nat) (v1 : Int32) (kv0 : jk Z v0 12) (hQ : ∀ (I' : jI) (L' : jL), WD Z I' → FR Ws_X12_again Z I0 Z I' → Q (1 : Int32) I' L') : ∀ (n : Nat) (v2 : Int32) (I : jI) (L : jL), WD Z I → FR Ws_X12_again Z I0 Z I →   (0 ≤ v2.toInt ∧ v2.toInt ≤ 6 ∧ (I v0 66).toInt = 266 * v1.toInt + 240 + 3 * v2.toInt ∧ 0 ≤ v1.toInt ∧ v1.toInt ≤ 1) → 6 - v2.toInt < (n : Int) → f_X12_again_L108  Z Q n v0 v1 v2 I L := by
  intro n
  induction n with
  | zero =>
    intro v2 I L w_I q_I   li  me
    exfalso
    omega
  | succ n ih =>
    intro v2 I L w_I q_I   li  me
    unfold f_X12_again_L108
    have rv2 := i_rng v2
    have rv1 := i_rng v1
    refine ⟨fun c20 => ?_, fun c20 => ?_⟩
    · skip
      first | (have t21 : (6) ≤ v2.toInt := (i_le (show (6 : Int32).toInt = 6 from rfl) rfl).mp c20) | (have t21 : (6 : Int32).toInt ≤ v2.toInt := (i_le rfl rfl).mp c20) | skip
      have t22 : (0 : Int32).toInt = 0 := rfl
      exact ⟨(8 - (0 : Int32).toInt).toNat + 1, l11_X12_again_L175 w0 v0 v1 kv0   hQ   _ (0 : Int32) I L w_I q_I   (by omega)  (by omega)⟩
    · skip
      first | (have t23 : ¬ ((6) ≤ v2.toInt) := (not_congr (i_le (show (6 : Int32).toInt = 6 from rfl) rfl)).mp c20) | (have t23 : ¬ ((6 : Int32).toInt ≤ v2.toInt) := (not_congr (i_le rfl rfl)).mp c20) | skip
      refine s_X12_take w_I v0 kv0  (by omega) (fun r24 I26 L27 w_I26 f_I26 p25 => ?_)
      have q_I26 : FR Ws_X12_again Z I0 Z I26 := q_I.trans w0.1 w0.2.1 (f_I26.mono (by decide))
      have h28 := tkF (k := v1.toInt) (m := (I v0 66).toInt - 266 * v1.toInt) p25.2 (by omega) (by omega) (by omega)
      first | (have h281 := h28.1 (by omega) (by omega)) | (have h281 := h28.2.1 (by omega) (by omega)) | (have h281 := h28.2.2 (by omega) (by omega) (by omega)) | skip
      clear h28
      obtain ⟨p25_0, p25_1⟩ := p25
      have rr24 := i_rng r24
      refine s_X12_take w_I26 v0 kv0  (by omega) (fun r29 I31 L32 w_I31 f_I31 p30 => ?_)
      have q_I31 : FR Ws_X12_again Z I0 Z I31 := q_I26.trans w0.1 w0.2.1 (f_I31.mono (by decide))
      have h33 := tkF (k := v1.toInt) (m := (I26 v0 66).toInt - 266 * v1.toInt) p30.2 (by omega) (by omega) (by omega)
      first | (have h331 := h33.1 (by omega) (by omega)) | (have h331 := h33.2.1 (by omega) (by omega)) | (have h331 := h33.2.2 (by omega) (by omega) (by omega)) | skip
      clear h33
      obtain ⟨p30_0, p30_1⟩ := p30
      have rr29 := i_rng r29
      refine s_X12_take w_I31 v0 kv0  (by omega) (fun r34 I36 L37 w_I36 f_I36 p35 => ?_)
      have q_I36 : FR Ws_X12_again Z I0 Z I36 := q_I31.trans w0.1 w0.2.1 (f_I36.mono (by decide))
      have h38 := tkF (k := v1.toInt) (m := (I31 v0 66).toInt - 266 * v1.toInt) p35.2 (by omega) (by omega) (by omega)
      first | (have h381 := h38.1 (by omega) (by omega)) | (have h381 := h38.2.1 (by omega) (by omega)) | (have h381 := h38.2.2 (by omega) (by omega) (by omega)) | skip
      clear h38
      obtain ⟨p35_0, p35_1⟩ := p35
      have rr34 := i_rng r34
      intro b39 eb39
      obtain ⟨x40, ex40, kb39, lb39⟩ := sh_f w_I36.1 kv0 (j := 65) (k := 14) (m := 2) rfl
      cases eb39.symm.trans ex40
      have o41 : vp_in v1 2 := vi_of rfl (by omega) (by omega)
      refine ⟨o41, ?_⟩
      refine ⟨fun c42 => ?_, fun c42 => ?_⟩
      · skip
        first | (have t43 : v2.toInt < (I36 b39 v1.toNatClampNeg).toInt := (i_lt rfl rfl).mp c42) | (have t43 : v2.toInt < (I36 b39 v1.toNatClampNeg).toInt := (i_lt rfl rfl).mp c42) | skip
        intro b44 eb44
        obtain ⟨x45, ex45, kb44, lb44⟩ := sh_f w_I36.1 kv0 (j := 14) (k := 14) (m := 6) rfl
        cases eb44.symm.trans ex45
        have o46 : vp_in v2 6 := vi_of rfl (by omega) (by omega)
        refine ⟨o46, ?_⟩
        intro I47 eI47
        have w_I47 : WD Z I47 := by rw [eI47]; exact WD_putA w_I36 12 14 kv0 eb44 kb44 rfl rfl (by decide) (by constructor <;> omega)
        have f_I47 : FR [(12, 14)] Z I36 Z I47 := by rw [eI47]; exact FR_upA w_I36.2.1 kv0 eb44 kb44 rfl rfl List.mem_cons_self
        have q_I47 : FR Ws_X12_again Z I0 Z I47 := q_I36.trans w0.1 w0.2.1 (f_I47.mono (by decide))
        have u48 : (I47 v0 66).toInt = (I36 v0 66).toInt := by rw [f_I47.2.2.1 v0 12 66 kv0 (by decide) (by decide)]
        intro b49 eb49
        obtain ⟨x50, ex50, kb49, lb49⟩ := sh_f w_I47.1 kv0 (j := 15) (k := 14) (m := 6) rfl
        cases eb49.symm.trans ex50
        have o51 : vp_in v2 6 := vi_of rfl (by omega) (by omega)
        refine ⟨o51, ?_⟩
        intro I52 eI52
        have w_I52 : WD Z I52 := by rw [eI52]; exact WD_putA w_I47 12 15 kv0 eb49 kb49 rfl rfl (by decide) trivial
        have f_I52 : FR [(12, 15)] Z I47 Z I52 := by rw [eI52]; exact FR_upA w_I47.2.1 kv0 eb49 kb49 rfl rfl List.mem_cons_self
        have q_I52 : FR Ws_X12_again Z I0 Z I52 := q_I47.trans w0.1 w0.2.1 (f_I52.mono (by decide))
        have u53 : (I52 v0 66).toInt = (I47 v0 66).toInt := by rw [f_I52.2.2.1 v0 12 66 kv0 (by decide) (by decide)]
        intro b54 eb54
        obtain ⟨x55, ex55, kb54, lb54⟩ := sh_f w_I52.1 kv0 (j := 16) (k := 14) (m := 6) rfl
        cases eb54.symm.trans ex55
        have o56 : vp_in v2 6 := vi_of rfl (by omega) (by omega)
        refine ⟨o56, ?_⟩
        intro I57 eI57
        have w_I57 : WD Z I57 := by rw [eI57]; exact WD_putA w_I52 12 16 kv0 eb54 kb54 rfl rfl (by decide) trivial
        have f_I57 : FR [(12, 16)] Z I52 Z I57 := by rw [eI57]; exact FR_upA w_I52.2.1 kv0 eb54 kb54 rfl rfl List.mem_cons_self
        have q_I57 : FR Ws_X12_again Z I0 Z I57 := q_I52.trans w0.1 w0.2.1 (f_I57.mono (by decide))
        have u58 : (I57 v0 66).toInt = (I52 v0 66).toInt := by rw [f_I57.2.2.1 v0 12 66 kv0 (by decide) (by decide)]
        unfold f_X12_again_b167
        intro x59 ex59
        have rx59 := i_rng x59
        first | (have tx59 : x59.toInt = v2.toInt + (1) := by (rw [ex59]; exact (i_add rfl (show (1 : Int32).toInt = 1 from rfl) (by omega) (by omega)))) | skip
        exact ih x59 I57 L37 w_I57 q_I57   (by omega)  (by omega)
      · skip
        first | (have t60 : ¬ (v2.toInt < (I36 b39 v1.toNatClampNeg).toInt) := (not_congr (i_lt rfl rfl)).mp c42) | (have t60 : ¬ (v2.toInt < (I36 b39 v1.toNatClampNeg).toInt) := (not_congr (i_lt rfl rfl)).mp c42) | skip
        unfold f_X12_again_b167
        intro x61 ex61
        have rx61 := i_rng x61
        first | (have tx61 : x61.toInt = v2.toInt + (1) := by (rw [ex61]; exact (i_add rfl (show (1 : Int32).toInt = 1 from rfl) (by omega) (by omega)))) | skip
        exact ih x61 I36 L37 w_I36 q_I36   (by omega)  (by omega)
set_option maxHeartbeats 4000000 in
set_option maxRecDepth 100000 in
theorem l11_X12_again_L83 {Z : jZ} {I0 : jI} {Q : Int32 → jI → jL → Prop} (w0 : WD Z I0) (v0 : Nat) (v1 : Int32) (kv0 : jk Z v0 12) (hQ : ∀ (I' : jI) (L' : jL), WD Z I' → FR Ws_X12_again Z I0 Z I' → Q (1 : Int32) I' L') : ∀ (n : Nat) (v2 : Int32) (I : jI) (L : jL), WD Z I → FR Ws_X12_again Z I0 Z I →   (0 ≤ v2.toInt ∧ v2.toInt ≤ 192 ∧ (I v0 66).toInt = 266 * v1.toInt + 48 + 1 * v2.toInt ∧ 0 ≤ v1.toInt ∧ v1.toInt ≤ 1) → 192 - v2.toInt < (n : Int) → f_X12_again_L83  Z Q n v0 v1 v2 I L := by
  intro n
  induction n with
  | zero =>
    intro v2 I L w_I q_I   li  me
    exfalso
    omega
  | succ n ih =>
    intro v2 I L w_I q_I   li  me
    unfold f_X12_again_L83
    have rv2 := i_rng v2
    have rv1 := i_rng v1
    refine ⟨fun c62 => ?_, fun c62 => ?_⟩
    · skip
      first | (have t63 : (192) ≤ v2.toInt := (i_le (show (192 : Int32).toInt = 192 from rfl) rfl).mp c62) | (have t63 : (192 : Int32).toInt ≤ v2.toInt := (i_le rfl rfl).mp c62) | skip
      have t64 : (0 : Int32).toInt = 0 := rfl
      exact ⟨(6 - (0 : Int32).toInt).toNat + 1, l11_X12_again_L108 w0 v0 v1 kv0   hQ   _ (0 : Int32) I L w_I q_I   (by omega)  (by omega)⟩
    · skip
      first | (have t65 : ¬ ((192) ≤ v2.toInt) := (not_congr (i_le (show (192 : Int32).toInt = 192 from rfl) rfl)).mp c62) | (have t65 : ¬ ((192 : Int32).toInt ≤ v2.toInt) := (not_congr (i_le rfl rfl)).mp c62) | skip
      intro b66 eb66
      obtain ⟨x67, ex67, kb66, lb66⟩ := sh_f w_I.1 kv0 (j := 5) (k := 14) (m := 192) rfl
      cases eb66.symm.trans ex67
      refine s_X12_take w_I v0 kv0  (by omega) (fun r68 I70 L71 w_I70 f_I70 p69 => ?_)
      have q_I70 : FR Ws_X12_again Z I0 Z I70 := q_I.trans w0.1 w0.2.1 (f_I70.mono (by decide))
      have h72 := tkF (k := v1.toInt) (m := (I v0 66).toInt - 266 * v1.toInt) p69.2 (by omega) (by omega) (by omega)
      first | (have h721 := h72.1 (by omega) (by omega)) | (have h721 := h72.2.1 (by omega) (by omega)) | (have h721 := h72.2.2 (by omega) (by omega) (by omega)) | skip
      clear h72
      obtain ⟨p69_0, p69_1⟩ := p69
      have rr68 := i_rng r68
      have o73 : vp_in v2 192 := vi_of rfl (by omega) (by omega)
      refine ⟨o73, ?_⟩
      intro I74 eI74
      have w_I74 : WD Z I74 := by rw [eI74]; exact WD_putA w_I70 12 5 kv0 eb66 kb66 rfl rfl (by decide) trivial
      have f_I74 : FR [(12, 5)] Z I70 Z I74 := by rw [eI74]; exact FR_upA w_I70.2.1 kv0 eb66 kb66 rfl rfl List.mem_cons_self
      have q_I74 : FR Ws_X12_again Z I0 Z I74 := q_I70.trans w0.1 w0.2.1 (f_I74.mono (by decide))
      have u75 : (I74 v0 66).toInt = (I70 v0 66).toInt := by rw [f_I74.2.2.1 v0 12 66 kv0 (by decide) (by decide)]
      intro x76 ex76
      have rx76 := i_rng x76
      first | (have tx76 : x76.toInt = v2.toInt + (1) := by (rw [ex76]; exact (i_add rfl (show (1 : Int32).toInt = 1 from rfl) (by omega) (by omega)))) | skip
      exact ih x76 I74 L71 w_I74 q_I74   (by omega)  (by omega)
set_option maxHeartbeats 4000000 in
set_option maxRecDepth 100000 in
theorem l11_X12_again_L49 {Z : jZ} {I0 : jI} {Q : Int32 → jI → jL → Prop} (w0 : WD Z I0) (v0 : Nat) (v1 : Int32) (kv0 : jk Z v0 12) (hQ : ∀ (I' : jI) (L' : jL), WD Z I' → FR Ws_X12_again Z I0 Z I' → Q (1 : Int32) I' L') : ∀ (n : Nat) (v2 : Int32) (I : jI) (L : jL), WD Z I → FR Ws_X12_again Z I0 Z I →   (0 ≤ v2.toInt ∧ v2.toInt ≤ 24 ∧ (I v0 66).toInt = 266 * v1.toInt + 0 + 2 * v2.toInt ∧ 0 ≤ v1.toInt ∧ v1.toInt ≤ 1) → 24 - v2.toInt < (n : Int) → f_X12_again_L49  Z Q n v0 v1 v2 I L := by
  intro n
  induction n with
  | zero =>
    intro v2 I L w_I q_I   li  me
    exfalso
    omega
  | succ n ih =>
    intro v2 I L w_I q_I   li  me
    unfold f_X12_again_L49
    have rv2 := i_rng v2
    have rv1 := i_rng v1
    refine ⟨fun c77 => ?_, fun c77 => ?_⟩
    · skip
      first | (have t78 : (24) ≤ v2.toInt := (i_le (show (24 : Int32).toInt = 24 from rfl) rfl).mp c77) | (have t78 : (24 : Int32).toInt ≤ v2.toInt := (i_le rfl rfl).mp c77) | skip
      have t79 : (0 : Int32).toInt = 0 := rfl
      exact ⟨(192 - (0 : Int32).toInt).toNat + 1, l11_X12_again_L83 w0 v0 v1 kv0   hQ   _ (0 : Int32) I L w_I q_I   (by omega)  (by omega)⟩
    · skip
      first | (have t80 : ¬ ((24) ≤ v2.toInt) := (not_congr (i_le (show (24 : Int32).toInt = 24 from rfl) rfl)).mp c77) | (have t80 : ¬ ((24 : Int32).toInt ≤ v2.toInt) := (not_congr (i_le rfl rfl)).mp c77) | skip
      intro b81 eb81
      obtain ⟨x82, ex82, kb81, lb81⟩ := sh_f w_I.1 kv0 (j := 2) (k := 14) (m := 24) rfl
      cases eb81.symm.trans ex82
      refine s_X12_take w_I v0 kv0  (by omega) (fun r83 I85 L86 w_I85 f_I85 p84 => ?_)
      have q_I85 : FR Ws_X12_again Z I0 Z I85 := q_I.trans w0.1 w0.2.1 (f_I85.mono (by decide))
      have h87 := tkF (k := v1.toInt) (m := (I v0 66).toInt - 266 * v1.toInt) p84.2 (by omega) (by omega) (by omega)
      first | (have h871 := h87.1 (by omega) (by omega)) | (have h871 := h87.2.1 (by omega) (by omega)) | (have h871 := h87.2.2 (by omega) (by omega) (by omega)) | skip
      clear h87
      obtain ⟨p84_0, p84_1⟩ := p84
      have rr83 := i_rng r83
      have o88 : vp_in v2 24 := vi_of rfl (by omega) (by omega)
      refine ⟨o88, ?_⟩
      intro I89 eI89
      have w_I89 : WD Z I89 := by rw [eI89]; exact WD_putA w_I85 12 2 kv0 eb81 kb81 rfl rfl (by decide) (by constructor <;> omega)
      have f_I89 : FR [(12, 2)] Z I85 Z I89 := by rw [eI89]; exact FR_upA w_I85.2.1 kv0 eb81 kb81 rfl rfl List.mem_cons_self
      have q_I89 : FR Ws_X12_again Z I0 Z I89 := q_I85.trans w0.1 w0.2.1 (f_I89.mono (by decide))
      have u90 : (I89 v0 66).toInt = (I85 v0 66).toInt := by rw [f_I89.2.2.1 v0 12 66 kv0 (by decide) (by decide)]
      intro b91 eb91
      obtain ⟨x92, ex92, kb91, lb91⟩ := sh_f w_I89.1 kv0 (j := 3) (k := 14) (m := 24) rfl
      cases eb91.symm.trans ex92
      refine s_X12_take w_I89 v0 kv0  (by omega) (fun r93 I95 L96 w_I95 f_I95 p94 => ?_)
      have q_I95 : FR Ws_X12_again Z I0 Z I95 := q_I89.trans w0.1 w0.2.1 (f_I95.mono (by decide))
      have h97 := tkF (k := v1.toInt) (m := (I89 v0 66).toInt - 266 * v1.toInt) p94.2 (by omega) (by omega) (by omega)
      first | (have h971 := h97.1 (by omega) (by omega)) | (have h971 := h97.2.1 (by omega) (by omega)) | (have h971 := h97.2.2 (by omega) (by omega) (by omega)) | skip
      clear h97
      obtain ⟨p94_0, p94_1⟩ := p94
      have rr93 := i_rng r93
      have o98 : vp_in v2 24 := vi_of rfl (by omega) (by omega)
      refine ⟨o98, ?_⟩
      intro I99 eI99
      have w_I99 : WD Z I99 := by rw [eI99]; exact WD_putA w_I95 12 3 kv0 eb91 kb91 rfl rfl (by decide) (by constructor <;> omega)
      have f_I99 : FR [(12, 3)] Z I95 Z I99 := by rw [eI99]; exact FR_upA w_I95.2.1 kv0 eb91 kb91 rfl rfl List.mem_cons_self
      have q_I99 : FR Ws_X12_again Z I0 Z I99 := q_I95.trans w0.1 w0.2.1 (f_I99.mono (by decide))
      have u100 : (I99 v0 66).toInt = (I95 v0 66).toInt := by rw [f_I99.2.2.1 v0 12 66 kv0 (by decide) (by decide)]
      intro x101 ex101
      have rx101 := i_rng x101
      first | (have tx101 : x101.toInt = v2.toInt + (1) := by (rw [ex101]; exact (i_add rfl (show (1 : Int32).toInt = 1 from rfl) (by omega) (by omega)))) | skip
      exact ih x101 I99 L96 w_I99 q_I99   (by omega)  (by omega)
set_option maxHeartbeats 4000000 in
set_option maxRecDepth 100000 in
theorem l11_X11_again_L59 {Z : jZ} {I0 : jI} {Q : Int32 → jI → jL → Prop} (w0 : WD Z I0) (v0 : Nat) (v1 : Int32) (kv0 : jk Z v0 11) (v2 : Nat) (kv2 : jk Z v2 2) (hQ : ∀ (I' : jI) (L' : jL), WD Z I' → FR Ws_X11_again Z I0 Z I' → Q (1 : Int32) I' L') : ∀ (n : Nat) (v3 : Int32) (I : jI) (L : jL), WD Z I → FR Ws_X11_again Z I0 Z I →   (0 ≤ v3.toInt ∧ v3.toInt ≤ 6) → 6 - v3.toInt < (n : Int) → f_X11_again_L59  Z Q n v0 v2 v3 I L := by
  intro n
  induction n with
  | zero =>
    intro v3 I L w_I q_I   li  me
    exfalso
    omega
  | succ n ih =>
    intro v3 I L w_I q_I   li  me
    unfold f_X11_again_L59
    have rv3 := i_rng v3
    have rv1 := i_rng v1
    refine ⟨fun c1 => ?_, fun c1 => ?_⟩
    · skip
      first | (have t2 : (I v2 7).toInt ≤ v3.toInt := (i_le rfl rfl).mp c1) | (have t2 : (I v2 7).toInt ≤ v3.toInt := (i_le rfl rfl).mp c1) | skip
      have t3 : (1 : Int32).toInt = 1 := rfl
      exact hQ I L w_I q_I 
    · skip
      first | (have t4 : ¬ ((I v2 7).toInt ≤ v3.toInt) := (not_congr (i_le rfl rfl)).mp c1) | (have t4 : ¬ ((I v2 7).toInt ≤ v3.toInt) := (not_congr (i_le rfl rfl)).mp c1) | skip
      have t6 : 0 ≤ (I v0 4).toInt ∧ (I v0 4).toInt ≤ 6 := w_I.fld 11 4 kv0 (by decide)
      refine ⟨fun c7 => ?_, fun c7 => ?_⟩
      · skip
        first | (have t8 : (I v0 4).toInt ≤ v3.toInt := (i_le rfl rfl).mp c7) | (have t8 : (I v0 4).toInt ≤ v3.toInt := (i_le rfl rfl).mp c7) | skip
        have t9 : (1 : Int32).toInt = 1 := rfl
        exact hQ I L w_I q_I 
      · skip
        first | (have t10 : ¬ ((I v0 4).toInt ≤ v3.toInt) := (not_congr (i_le rfl rfl)).mp c7) | (have t10 : ¬ ((I v0 4).toInt ≤ v3.toInt) := (not_congr (i_le rfl rfl)).mp c7) | skip
        refine s_X11_find w_I v0 v3 kv0   (fun r11 p12 => ?_)
        refine ⟨fun c14 => ?_, fun b13 c14 => ?_⟩
        · skip
          unfold f_X11_again_b94
          intro x15 ex15
          have rx15 := i_rng x15
          first | (have tx15 : x15.toInt = v3.toInt + (1) := by (rw [ex15]; exact (i_add rfl (show (1 : Int32).toInt = 1 from rfl) (by omega) (by omega)))) | skip
          exact ih x15 I L w_I q_I   (by omega)  (by omega)
        · skip
          have kb13 : jk Z b13 5 := by first | exact p12 b13 c14 | exact (p12 b13 c14).1 | exact (p12.1 b13 c14).1
          refine s_X2_getPilgrim w_I v2 v3 b13 kv2 kb13   (fun  I16 L17 w_I16 f_I16  => ?_)
          have q_I16 : FR Ws_X11_again Z I0 Z I16 := q_I.trans w0.1 w0.2.1 (f_I16.mono (by decide))
          have u18 : (I16 v2 7).toInt = (I v2 7).toInt := by rw [f_I16.2.2.1 v2 2 7 kv2 (by decide) (by decide)]
          have u19 : (I16 v0 4).toInt = (I v0 4).toInt := by rw [f_I16.2.2.1 v0 11 4 kv0 (by decide) (by decide)]
          unfold f_X11_again_b94
          intro x20 ex20
          have rx20 := i_rng x20
          first | (have tx20 : x20.toInt = v3.toInt + (1) := by (rw [ex20]; exact (i_add rfl (show (1 : Int32).toInt = 1 from rfl) (by omega) (by omega)))) | skip
          exact ih x20 I16 L17 w_I16 q_I16   (by omega)  (by omega)


set_option maxHeartbeats 4000000 in
set_option maxRecDepth 100000 in
theorem l11_X12_stairs_L301 {B : Nat × Nat} {T : Nat} {Z0 : jZ} {I0 : jI} {Q : Int32 → jZ → jI → jL → Prop} (w0 : WD Z0 I0) (v0 : Nat) (kv0 : jk Z0 v0 12) (uM : Nat) (huM : jr Z0 v0 18 = some uM) (p0 : 0 ≤ (I0 v0 7).toInt ∧ (I0 v0 7).toInt ≤ 100000) (v1 : Int32) (hQ : ∀ (r : Int32) (Z' : jZ) (I' : jI) (L' : jL), WD Z' I' → BUD B Z' T → FR Ws_X12_stairs Z0 I0 Z' I' → CP Z0 Z' → ((I' v0 19).toInt = 0 ∧ r.toInt = stA (I0 uM) (I0 v0 19).toInt ∧ (0 ≤ r.toInt → (I' v0 0).toInt = r.toInt) ∧ (r.toInt < 0 → (I' v0 0).toInt = (I0 v0 0).toInt) ∧ (0 ≤ r.toInt → (I' v0 7).toInt = (I0 v0 7).toInt + 1) ∧ (r.toInt < 0 → (I' v0 7).toInt = (I0 v0 7).toInt)) → Q r Z' I' L') : ∀ (n : Nat) (v3 : Int32) (Z : jZ) (I : jI) (L : jL), WD Z I → BUD B Z T → FR Ws_X12_stairs Z0 I0 Z I → CP Z0 Z →   (0 ≤ v3.toInt ∧ v3.toInt ≤ 6 ∧ (I v0 19).toInt = 0 ∧ v1.toInt = stA (I0 uM) (I0 v0 19).toInt ∧ 2 ≤ v1.toInt ∧ (I v0 0).toInt = v1.toInt ∧ (I v0 7).toInt = (I0 v0 7).toInt + 1) → 6 - v3.toInt < (n : Int) → f_X12_stairs_L301 B  Q n v0 v1 v3 Z I L := by
  intro n
  induction n with
  | zero =>
    intro v3 Z I L w_I bd_Z q_I cp_Z   li  me
    exfalso
    omega
  | succ n ih =>
    intro v3 Z I L w_I bd_Z q_I cp_Z   li  me
    unfold f_X12_stairs_L301
    have rv3 := i_rng v3
    have rv1 := i_rng v1
    have kv0_0 := kv0
    have kv0 := (q_I.1 _ _ kv0).1
    have huM_1 : jr Z v0 18 = some uM := (q_I.2.1 v0 12 18 kv0_0 (by decide) (by decide)).trans huM
    have luM : jlen Z uM = 80 := by obtain ⟨b9, e9, -, l9⟩ := sh_f w_I.1 kv0 (j := 18) (k := 13) (m := 80) rfl; cases huM_1.symm.trans e9; exact l9
    have kuM : jk Z uM 13 := by obtain ⟨b9, e9, k9, -⟩ := sh_f w_I.1 kv0 (j := 18) (k := 13) (m := 80) rfl; cases huM_1.symm.trans e9; exact k9
    have t1 : 0 ≤ (I v0 19).toInt ∧ (I v0 19).toInt ≤ 80 := w_I.fld 12 19 kv0 (by decide)
    have t2 : 0 ≤ (I v0 0).toInt ∧ (I v0 0).toInt ≤ 24 := w_I.fld 12 0 kv0 (by decide)
    have xq_I := q_I.1
    have t4 : 0 ≤ (I v0 8).toInt ∧ (I v0 8).toInt ≤ 6 := w_I.fld 12 8 kv0 (by decide)
    refine ⟨fun c5 => ?_, fun c5 => ?_⟩
    · skip
      first | (have t6 : (I v0 8).toInt ≤ v3.toInt := (i_le rfl rfl).mp c5) | (have t6 : (I v0 8).toInt ≤ v3.toInt := (i_le rfl rfl).mp c5) | skip
      exact hQ v1 Z I L w_I bd_Z q_I cp_Z (by omega)
    · skip
      first | (have t7 : ¬ ((I v0 8).toInt ≤ v3.toInt) := (not_congr (i_le rfl rfl)).mp c5) | (have t7 : ¬ ((I v0 8).toInt ≤ v3.toInt) := (not_congr (i_le rfl rfl)).mp c5) | skip
      intro b8 eb8
      obtain ⟨x9, ex9, kb8, lb8⟩ := sh_f w_I.1 kv0 (j := 14) (k := 14) (m := 6) rfl
      cases eb8.symm.trans ex9
      have o10 : vp_in v3 6 := vi_of rfl (by omega) (by omega)
      refine ⟨o10, ?_⟩
      intro I11 eI11
      have t12 : (-1 : Int32).toInt = -1 := rfl
      have w_I11 : WD Z I11 := by rw [eI11]; exact WD_putA w_I 12 14 kv0 eb8 kb8 rfl rfl (by decide) (by constructor <;> omega)
      have f_I11 : FR [(12, 14)] Z I Z I11 := by rw [eI11]; exact FR_upA w_I.2.1 kv0 eb8 kb8 rfl rfl List.mem_cons_self
      have q_I11 : FR Ws_X12_stairs Z0 I0 Z I11 := q_I.trans w0.1 w0.2.1 (f_I11.mono (by decide))
      have u13 : (I11 v0 19).toInt = (I v0 19).toInt := by rw [f_I11.2.2.1 v0 12 19 kv0 (by decide) (by decide)]
      have u14 : (I11 v0 0).toInt = (I v0 0).toInt := by rw [f_I11.2.2.1 v0 12 0 kv0 (by decide) (by decide)]
      have u15 : (I11 v0 7).toInt = (I v0 7).toInt := by rw [f_I11.2.2.1 v0 12 7 kv0 (by decide) (by decide)]
      have u16 : (I11 v0 8).toInt = (I v0 8).toInt := by rw [f_I11.2.2.1 v0 12 8 kv0 (by decide) (by decide)]
      intro b17 eb17
      obtain ⟨x18, ex18, kb17, lb17⟩ := sh_f w_I11.1 kv0 (j := 15) (k := 14) (m := 6) rfl
      cases eb17.symm.trans ex18
      intro b19 eb19
      obtain ⟨x20, ex20, kb19, lb19⟩ := sh_f w_I11.1 kv0 (j := 9) (k := 14) (m := 6) rfl
      cases eb19.symm.trans ex20
      have o21 : vp_in v3 6 := vi_of rfl (by omega) (by omega)
      refine ⟨o21, ?_⟩
      have t22 : 0 ≤ (I11 b19 v3.toNatClampNeg).toInt ∧ (I11 b19 v3.toNatClampNeg).toInt ≤ 120 := w_I11.arr 12 9 kv0 eb19 kb19 rfl rfl _
      have o23 : vp_in v3 6 := vi_of rfl (by omega) (by omega)
      refine ⟨o23, ?_⟩
      intro I24 eI24
      have w_I24 : WD Z I24 := by rw [eI24]; exact WD_putA w_I11 12 15 kv0 eb17 kb17 rfl rfl (by decide) trivial
      have f_I24 : FR [(12, 15)] Z I11 Z I24 := by rw [eI24]; exact FR_upA w_I11.2.1 kv0 eb17 kb17 rfl rfl List.mem_cons_self
      have q_I24 : FR Ws_X12_stairs Z0 I0 Z I24 := q_I11.trans w0.1 w0.2.1 (f_I24.mono (by decide))
      have u25 : (I24 v0 19).toInt = (I11 v0 19).toInt := by rw [f_I24.2.2.1 v0 12 19 kv0 (by decide) (by decide)]
      have u26 : (I24 v0 0).toInt = (I11 v0 0).toInt := by rw [f_I24.2.2.1 v0 12 0 kv0 (by decide) (by decide)]
      have u27 : (I24 v0 7).toInt = (I11 v0 7).toInt := by rw [f_I24.2.2.1 v0 12 7 kv0 (by decide) (by decide)]
      have u28 : (I24 v0 8).toInt = (I11 v0 8).toInt := by rw [f_I24.2.2.1 v0 12 8 kv0 (by decide) (by decide)]
      intro b29 eb29
      obtain ⟨x30, ex30, kb29, lb29⟩ := sh_f w_I24.1 kv0 (j := 16) (k := 14) (m := 6) rfl
      cases eb29.symm.trans ex30
      intro b31 eb31
      obtain ⟨x32, ex32, kb31, lb31⟩ := sh_f w_I24.1 kv0 (j := 10) (k := 14) (m := 6) rfl
      cases eb31.symm.trans ex32
      have o33 : vp_in v3 6 := vi_of rfl (by omega) (by omega)
      refine ⟨o33, ?_⟩
      have t34 : 0 ≤ (I24 b31 v3.toNatClampNeg).toInt ∧ (I24 b31 v3.toNatClampNeg).toInt ≤ 999 := w_I24.arr 12 10 kv0 eb31 kb31 rfl rfl _
      have o35 : vp_in v3 6 := vi_of rfl (by omega) (by omega)
      refine ⟨o35, ?_⟩
      intro I36 eI36
      have w_I36 : WD Z I36 := by rw [eI36]; exact WD_putA w_I24 12 16 kv0 eb29 kb29 rfl rfl (by decide) trivial
      have f_I36 : FR [(12, 16)] Z I24 Z I36 := by rw [eI36]; exact FR_upA w_I24.2.1 kv0 eb29 kb29 rfl rfl List.mem_cons_self
      have q_I36 : FR Ws_X12_stairs Z0 I0 Z I36 := q_I24.trans w0.1 w0.2.1 (f_I36.mono (by decide))
      have u37 : (I36 v0 19).toInt = (I24 v0 19).toInt := by rw [f_I36.2.2.1 v0 12 19 kv0 (by decide) (by decide)]
      have u38 : (I36 v0 0).toInt = (I24 v0 0).toInt := by rw [f_I36.2.2.1 v0 12 0 kv0 (by decide) (by decide)]
      have u39 : (I36 v0 7).toInt = (I24 v0 7).toInt := by rw [f_I36.2.2.1 v0 12 7 kv0 (by decide) (by decide)]
      have u40 : (I36 v0 8).toInt = (I24 v0 8).toInt := by rw [f_I36.2.2.1 v0 12 8 kv0 (by decide) (by decide)]
      intro x41 ex41
      have rx41 := i_rng x41
      first | (have tx41 : x41.toInt = v3.toInt + (1) := by (rw [ex41]; exact (i_add rfl (show (1 : Int32).toInt = 1 from rfl) (by omega) (by omega)))) | skip
      exact ih x41 Z I36 L w_I36 bd_Z q_I36 cp_Z   (by omega)  (by omega)
set_option maxHeartbeats 4000000 in
set_option maxRecDepth 100000 in
theorem l11_X12_stairs_L280 {B : Nat × Nat} {T : Nat} {Z0 : jZ} {I0 : jI} {Q : Int32 → jZ → jI → jL → Prop} (w0 : WD Z0 I0) (v0 : Nat) (kv0 : jk Z0 v0 12) (uM : Nat) (huM : jr Z0 v0 18 = some uM) (p0 : 0 ≤ (I0 v0 7).toInt ∧ (I0 v0 7).toInt ≤ 100000) (v1 : Int32) (hQ : ∀ (r : Int32) (Z' : jZ) (I' : jI) (L' : jL), WD Z' I' → BUD B Z' T → FR Ws_X12_stairs Z0 I0 Z' I' → CP Z0 Z' → ((I' v0 19).toInt = 0 ∧ r.toInt = stA (I0 uM) (I0 v0 19).toInt ∧ (0 ≤ r.toInt → (I' v0 0).toInt = r.toInt) ∧ (r.toInt < 0 → (I' v0 0).toInt = (I0 v0 0).toInt) ∧ (0 ≤ r.toInt → (I' v0 7).toInt = (I0 v0 7).toInt + 1) ∧ (r.toInt < 0 → (I' v0 7).toInt = (I0 v0 7).toInt)) → Q r Z' I' L') : ∀ (n : Nat) (v3 : Int32) (Z : jZ) (I : jI) (L : jL), WD Z I → BUD B Z T → FR Ws_X12_stairs Z0 I0 Z I → CP Z0 Z →   (0 ≤ v3.toInt ∧ v3.toInt ≤ 8 ∧ (I v0 19).toInt = 0 ∧ v1.toInt = stA (I0 uM) (I0 v0 19).toInt ∧ 2 ≤ v1.toInt ∧ (I v0 0).toInt = v1.toInt ∧ (I v0 7).toInt = (I0 v0 7).toInt + 1) → 8 - v3.toInt < (n : Int) → f_X12_stairs_L280 B  Q n v0 v1 v3 Z I L := by
  intro n
  induction n with
  | zero =>
    intro v3 Z I L w_I bd_Z q_I cp_Z   li  me
    exfalso
    omega
  | succ n ih =>
    intro v3 Z I L w_I bd_Z q_I cp_Z   li  me
    unfold f_X12_stairs_L280
    have rv3 := i_rng v3
    have rv1 := i_rng v1
    have kv0_0 := kv0
    have kv0 := (q_I.1 _ _ kv0).1
    have huM_1 : jr Z v0 18 = some uM := (q_I.2.1 v0 12 18 kv0_0 (by decide) (by decide)).trans huM
    have luM : jlen Z uM = 80 := by obtain ⟨b9, e9, -, l9⟩ := sh_f w_I.1 kv0 (j := 18) (k := 13) (m := 80) rfl; cases huM_1.symm.trans e9; exact l9
    have kuM : jk Z uM 13 := by obtain ⟨b9, e9, k9, -⟩ := sh_f w_I.1 kv0 (j := 18) (k := 13) (m := 80) rfl; cases huM_1.symm.trans e9; exact k9
    have t42 : 0 ≤ (I v0 19).toInt ∧ (I v0 19).toInt ≤ 80 := w_I.fld 12 19 kv0 (by decide)
    have t43 : 0 ≤ (I v0 0).toInt ∧ (I v0 0).toInt ≤ 24 := w_I.fld 12 0 kv0 (by decide)
    have xq_I := q_I.1
    refine ⟨fun c44 => ?_, fun c44 => ?_⟩
    · skip
      first | (have t45 : (8) ≤ v3.toInt := (i_le (show (8 : Int32).toInt = 8 from rfl) rfl).mp c44) | (have t45 : (8 : Int32).toInt ≤ v3.toInt := (i_le rfl rfl).mp c44) | skip
      have t46 : (0 : Int32).toInt = 0 := rfl
      exact ⟨(6 - (0 : Int32).toInt).toNat + 1, l11_X12_stairs_L301 w0 v0 kv0_0 uM huM p0 v1  hQ   _ (0 : Int32) Z I L w_I bd_Z q_I cp_Z   (by omega)  (by omega)⟩
    · skip
      first | (have t47 : ¬ ((8) ≤ v3.toInt) := (not_congr (i_le (show (8 : Int32).toInt = 8 from rfl) rfl)).mp c44) | (have t47 : ¬ ((8 : Int32).toInt ≤ v3.toInt) := (not_congr (i_le rfl rfl)).mp c44) | skip
      intro b48 eb48
      obtain ⟨x49, ex49, kb48, lb48⟩ := sh_f w_I.1 kv0 (j := 17) (k := 14) (m := 8) rfl
      cases eb48.symm.trans ex49
      have o50 : vp_in v3 8 := vi_of rfl (by omega) (by omega)
      refine ⟨o50, ?_⟩
      intro I51 eI51
      have t52 : (0 : Int32).toInt = 0 := rfl
      have w_I51 : WD Z I51 := by rw [eI51]; exact WD_putA w_I 12 17 kv0 eb48 kb48 rfl rfl (by decide) trivial
      have f_I51 : FR [(12, 17)] Z I Z I51 := by rw [eI51]; exact FR_upA w_I.2.1 kv0 eb48 kb48 rfl rfl List.mem_cons_self
      have q_I51 : FR Ws_X12_stairs Z0 I0 Z I51 := q_I.trans w0.1 w0.2.1 (f_I51.mono (by decide))
      have u53 : (I51 v0 19).toInt = (I v0 19).toInt := by rw [f_I51.2.2.1 v0 12 19 kv0 (by decide) (by decide)]
      have u54 : (I51 v0 0).toInt = (I v0 0).toInt := by rw [f_I51.2.2.1 v0 12 0 kv0 (by decide) (by decide)]
      have u55 : (I51 v0 7).toInt = (I v0 7).toInt := by rw [f_I51.2.2.1 v0 12 7 kv0 (by decide) (by decide)]
      intro x56 ex56
      have rx56 := i_rng x56
      first | (have tx56 : x56.toInt = v3.toInt + (1) := by (rw [ex56]; exact (i_add rfl (show (1 : Int32).toInt = 1 from rfl) (by omega) (by omega)))) | skip
      exact ih x56 Z I51 L w_I51 bd_Z q_I51 cp_Z   (by omega)  (by omega)
set_option maxHeartbeats 4000000 in
set_option maxRecDepth 100000 in
theorem l11_X12_stairs_L185 {B : Nat × Nat} {T : Nat} {Z0 : jZ} {I0 : jI} {Q : Int32 → jZ → jI → jL → Prop} (w0 : WD Z0 I0) (v0 : Nat) (kv0 : jk Z0 v0 12) (uM : Nat) (huM : jr Z0 v0 18 = some uM) (p0 : 0 ≤ (I0 v0 7).toInt ∧ (I0 v0 7).toInt ≤ 100000) (v1 : Int32) (v3 : Int32) (hQ : ∀ (r : Int32) (Z' : jZ) (I' : jI) (L' : jL), WD Z' I' → BUD B Z' T → FR Ws_X12_stairs Z0 I0 Z' I' → CP Z0 Z' → ((I' v0 19).toInt = 0 ∧ r.toInt = stA (I0 uM) (I0 v0 19).toInt ∧ (0 ≤ r.toInt → (I' v0 0).toInt = r.toInt) ∧ (r.toInt < 0 → (I' v0 0).toInt = (I0 v0 0).toInt) ∧ (0 ≤ r.toInt → (I' v0 7).toInt = (I0 v0 7).toInt + 1) ∧ (r.toInt < 0 → (I' v0 7).toInt = (I0 v0 7).toInt)) → Q r Z' I' L') {K131 : Nat → Int32 → Int32 → jZ → jI → jL → Prop} {N131 : Int} (hK131 : ∀ (v3 : Int32) (Z : jZ) (I : jI) (L : jL), WD Z I → BUD B Z T → FR Ws_X12_stairs Z0 I0 Z I → CP Z0 Z →   (0 ≤ v3.toInt ∧ v3.toInt ≤ 24 ∧ v1.toInt ≤ 24 ∧ (I v0 19).toInt = 0 ∧ v1.toInt = stA (I0 uM) (I0 v0 19).toInt ∧ 2 ≤ v1.toInt ∧ (I v0 0).toInt = v1.toInt ∧ (I v0 7).toInt = (I0 v0 7).toInt) → 24 - v3.toInt < N131 → K131 v0 v1 v3 Z I L) : ∀ (n : Nat) (v4 : Int32) (Z : jZ) (I : jI) (L : jL), WD Z I → BUD B Z T → FR Ws_X12_stairs Z0 I0 Z I → CP Z0 Z →   (0 ≤ v3.toInt ∧ v3.toInt ≤ 23 ∧ v1.toInt ≤ 24 ∧ 0 ≤ v4.toInt ∧ v4.toInt ≤ 8 ∧ (I v0 19).toInt = 0 ∧ v1.toInt = stA (I0 uM) (I0 v0 19).toInt ∧ 2 ≤ v1.toInt ∧ (I v0 0).toInt = v1.toInt ∧ (I v0 7).toInt = (I0 v0 7).toInt) → 24 - v3.toInt ≤ N131 → 8 - v4.toInt < (n : Int) → f_X12_stairs_L185 B K131 Q n v0 v1 v3 v4 Z I L := by
  intro n
  induction n with
  | zero =>
    intro v4 Z I L w_I bd_Z q_I cp_Z   li hm131 me
    exfalso
    omega
  | succ n ih =>
    intro v4 Z I L w_I bd_Z q_I cp_Z   li hm131 me
    unfold f_X12_stairs_L185
    have rv4 := i_rng v4
    have rv1 := i_rng v1
    have rv3 := i_rng v3
    have kv0_0 := kv0
    have kv0 := (q_I.1 _ _ kv0).1
    have huM_1 : jr Z v0 18 = some uM := (q_I.2.1 v0 12 18 kv0_0 (by decide) (by decide)).trans huM
    have luM : jlen Z uM = 80 := by obtain ⟨b9, e9, -, l9⟩ := sh_f w_I.1 kv0 (j := 18) (k := 13) (m := 80) rfl; cases huM_1.symm.trans e9; exact l9
    have kuM : jk Z uM 13 := by obtain ⟨b9, e9, k9, -⟩ := sh_f w_I.1 kv0 (j := 18) (k := 13) (m := 80) rfl; cases huM_1.symm.trans e9; exact k9
    have t57 : 0 ≤ (I v0 19).toInt ∧ (I v0 19).toInt ≤ 80 := w_I.fld 12 19 kv0 (by decide)
    have t58 : 0 ≤ (I v0 0).toInt ∧ (I v0 0).toInt ≤ 24 := w_I.fld 12 0 kv0 (by decide)
    have xq_I := q_I.1
    refine ⟨fun c59 => ?_, fun c59 => ?_⟩
    · skip
      first | (have t60 : (8) ≤ v4.toInt := (i_le (show (8 : Int32).toInt = 8 from rfl) rfl).mp c59) | (have t60 : (8 : Int32).toInt ≤ v4.toInt := (i_le rfl rfl).mp c59) | skip
      intro b61 eb61
      obtain ⟨x62, ex62, kb61, lb61⟩ := sh_f w_I.1 kv0 (j := 4) (k := 16) (m := 24) rfl
      cases eb61.symm.trans ex62
      intro b63 eb63
      obtain ⟨x64, ex64, kb63, lb63⟩ := sh_f w_I.1 kv0 (j := 28) (k := 14) (m := 120) rfl
      cases eb63.symm.trans ex64
      have o65 : vp_in (((5 : Int32) * v3) + (4 : Int32)) 120 := vi_of (i_add (i_mul (show (5 : Int32).toInt = 5 from rfl) rfl (by omega) (by omega)) (show (4 : Int32).toInt = 4 from rfl) (by omega) (by omega)) (by omega) (by omega)
      refine ⟨o65, ?_⟩
      have t67 := i_nat (x := (((5 : Int32) * v3) + (4 : Int32))) (i_add (i_mul (show (5 : Int32).toInt = 5 from rfl) rfl (by omega) (by omega)) (show (4 : Int32).toInt = 4 from rfl) (by omega) (by omega)) (by omega)
      have h66 : ((((5 : Int32) * v3) + (4 : Int32)).toNatClampNeg % 5 = 0 → 0 ≤ (I b63 (((5 : Int32) * v3) + (4 : Int32)).toNatClampNeg).toInt ∧ (I b63 (((5 : Int32) * v3) + (4 : Int32)).toNatClampNeg).toInt ≤ 30) ∧ ((((5 : Int32) * v3) + (4 : Int32)).toNatClampNeg % 5 = 1 → 0 ≤ (I b63 (((5 : Int32) * v3) + (4 : Int32)).toNatClampNeg).toInt ∧ (I b63 (((5 : Int32) * v3) + (4 : Int32)).toNatClampNeg).toInt ≤ 9) ∧ ((((5 : Int32) * v3) + (4 : Int32)).toNatClampNeg % 5 = 2 → 0 ≤ (I b63 (((5 : Int32) * v3) + (4 : Int32)).toNatClampNeg).toInt ∧ (I b63 (((5 : Int32) * v3) + (4 : Int32)).toNatClampNeg).toInt ≤ 20) := w_I.arr 12 28 kv0 eb63 kb63 rfl rfl _
      first | (have h661 := h66.1 (by omega)) | (have h661 := h66.2.1 (by omega)) | (have h661 := h66.2.2 (by omega)) | skip
      clear h66
      refine ⟨fun c68 => ?_, fun c68 => ?_⟩
      · skip
        first | (have t69 : ¬ ((I b63 (((5 : Int32) * v3) + (4 : Int32)).toNatClampNeg).toInt = (1)) := (not_congr (i_eq rfl (show (1 : Int32).toInt = 1 from rfl))).mp c68) | (have t69 : ¬ ((I b63 (((5 : Int32) * v3) + (4 : Int32)).toNatClampNeg).toInt = (1 : Int32).toInt) := (not_congr (i_eq rfl rfl)).mp c68) | skip
        unfold f_X12_stairs_b256
        have o70 : vp_in v3 (jlen Z b61) := vi_of rfl (by omega) (by omega)
        refine ⟨o70, ?_⟩
        intro I71 eI71
        have t72 : (0 : Int32).toInt = 0 := rfl
        have w_I71 : WD Z I71 := by rw [eI71]; exact WD_putA w_I 12 4 kv0 eb61 kb61 rfl rfl (by decide) trivial
        have f_I71 : FR [(12, 4)] Z I Z I71 := by rw [eI71]; exact FR_upA w_I.2.1 kv0 eb61 kb61 rfl rfl List.mem_cons_self
        have q_I71 : FR Ws_X12_stairs Z0 I0 Z I71 := q_I.trans w0.1 w0.2.1 (f_I71.mono (by decide))
        have u73 : (I71 v0 19).toInt = (I v0 19).toInt := by rw [f_I71.2.2.1 v0 12 19 kv0 (by decide) (by decide)]
        have u74 : (I71 v0 0).toInt = (I v0 0).toInt := by rw [f_I71.2.2.1 v0 12 0 kv0 (by decide) (by decide)]
        have u75 : (I71 v0 7).toInt = (I v0 7).toInt := by rw [f_I71.2.2.1 v0 12 7 kv0 (by decide) (by decide)]
        intro x76 ex76
        have rx76 := i_rng x76
        first | (have tx76 : x76.toInt = v3.toInt + (1) := by (rw [ex76]; exact (i_add rfl (show (1 : Int32).toInt = 1 from rfl) (by omega) (by omega)))) | skip
        exact hK131 x76 Z I71 L w_I71 bd_Z q_I71 cp_Z   (by omega)  (by omega)
      · skip
        first | (have t77 : (I b63 (((5 : Int32) * v3) + (4 : Int32)).toNatClampNeg).toInt = (1) := (i_eq rfl (show (1 : Int32).toInt = 1 from rfl)).mp c68) | (have t77 : (I b63 (((5 : Int32) * v3) + (4 : Int32)).toNatClampNeg).toInt = (1 : Int32).toInt := (i_eq rfl rfl).mp c68) | skip
        unfold f_X12_stairs_b256
        have o78 : vp_in v3 (jlen Z b61) := vi_of rfl (by omega) (by omega)
        refine ⟨o78, ?_⟩
        intro I79 eI79
        have t80 : (1 : Int32).toInt = 1 := rfl
        have w_I79 : WD Z I79 := by rw [eI79]; exact WD_putA w_I 12 4 kv0 eb61 kb61 rfl rfl (by decide) trivial
        have f_I79 : FR [(12, 4)] Z I Z I79 := by rw [eI79]; exact FR_upA w_I.2.1 kv0 eb61 kb61 rfl rfl List.mem_cons_self
        have q_I79 : FR Ws_X12_stairs Z0 I0 Z I79 := q_I.trans w0.1 w0.2.1 (f_I79.mono (by decide))
        have u81 : (I79 v0 19).toInt = (I v0 19).toInt := by rw [f_I79.2.2.1 v0 12 19 kv0 (by decide) (by decide)]
        have u82 : (I79 v0 0).toInt = (I v0 0).toInt := by rw [f_I79.2.2.1 v0 12 0 kv0 (by decide) (by decide)]
        have u83 : (I79 v0 7).toInt = (I v0 7).toInt := by rw [f_I79.2.2.1 v0 12 7 kv0 (by decide) (by decide)]
        intro x84 ex84
        have rx84 := i_rng x84
        first | (have tx84 : x84.toInt = v3.toInt + (1) := by (rw [ex84]; exact (i_add rfl (show (1 : Int32).toInt = 1 from rfl) (by omega) (by omega)))) | skip
        exact hK131 x84 Z I79 L w_I79 bd_Z q_I79 cp_Z   (by omega)  (by omega)
    · skip
      first | (have t85 : ¬ ((8) ≤ v4.toInt) := (not_congr (i_le (show (8 : Int32).toInt = 8 from rfl) rfl)).mp c59) | (have t85 : ¬ ((8 : Int32).toInt ≤ v4.toInt) := (not_congr (i_le rfl rfl)).mp c59) | skip
      intro b86 eb86
      obtain ⟨x87, ex87, kb86, lb86⟩ := sh_f w_I.1 kv0 (j := 5) (k := 14) (m := 192) rfl
      cases eb86.symm.trans ex87
      intro b88 eb88
      obtain ⟨x89, ex89, kb88, lb88⟩ := sh_f w_I.1 kv0 (j := 28) (k := 14) (m := 120) rfl
      cases eb88.symm.trans ex89
      have o90 : vp_in (((5 : Int32) * v3) + (3 : Int32)) 120 := vi_of (i_add (i_mul (show (5 : Int32).toInt = 5 from rfl) rfl (by omega) (by omega)) (show (3 : Int32).toInt = 3 from rfl) (by omega) (by omega)) (by omega) (by omega)
      refine ⟨o90, ?_⟩
      have t92 := i_nat (x := (((5 : Int32) * v3) + (3 : Int32))) (i_add (i_mul (show (5 : Int32).toInt = 5 from rfl) rfl (by omega) (by omega)) (show (3 : Int32).toInt = 3 from rfl) (by omega) (by omega)) (by omega)
      have h91 : ((((5 : Int32) * v3) + (3 : Int32)).toNatClampNeg % 5 = 0 → 0 ≤ (I b88 (((5 : Int32) * v3) + (3 : Int32)).toNatClampNeg).toInt ∧ (I b88 (((5 : Int32) * v3) + (3 : Int32)).toNatClampNeg).toInt ≤ 30) ∧ ((((5 : Int32) * v3) + (3 : Int32)).toNatClampNeg % 5 = 1 → 0 ≤ (I b88 (((5 : Int32) * v3) + (3 : Int32)).toNatClampNeg).toInt ∧ (I b88 (((5 : Int32) * v3) + (3 : Int32)).toNatClampNeg).toInt ≤ 9) ∧ ((((5 : Int32) * v3) + (3 : Int32)).toNatClampNeg % 5 = 2 → 0 ≤ (I b88 (((5 : Int32) * v3) + (3 : Int32)).toNatClampNeg).toInt ∧ (I b88 (((5 : Int32) * v3) + (3 : Int32)).toNatClampNeg).toInt ≤ 20) := w_I.arr 12 28 kv0 eb88 kb88 rfl rfl _
      first | (have h911 := h91.1 (by omega)) | (have h911 := h91.2.1 (by omega)) | (have h911 := h91.2.2 (by omega)) | skip
      clear h91
      refine ⟨fun c93 => ?_, fun c93 => ?_⟩
      · skip
        first | (have t94 : ¬ (v4.toInt = (I b88 (((5 : Int32) * v3) + (3 : Int32)).toNatClampNeg).toInt) := (not_congr (i_eq rfl rfl)).mp c93) | (have t94 : ¬ (v4.toInt = (I b88 (((5 : Int32) * v3) + (3 : Int32)).toNatClampNeg).toInt) := (not_congr (i_eq rfl rfl)).mp c93) | skip
        unfold f_X12_stairs_b225
        have o95 : vp_in (((8 : Int32) * v3) + v4) (jlen Z b86) := vi_of (i_add (i_mul (show (8 : Int32).toInt = 8 from rfl) rfl (by omega) (by omega)) rfl (by omega) (by omega)) (by omega) (by omega)
        refine ⟨o95, ?_⟩
        intro I96 eI96
        have t97 : (0 : Int32).toInt = 0 := rfl
        have w_I96 : WD Z I96 := by rw [eI96]; exact WD_putA w_I 12 5 kv0 eb86 kb86 rfl rfl (by decide) trivial
        have f_I96 : FR [(12, 5)] Z I Z I96 := by rw [eI96]; exact FR_upA w_I.2.1 kv0 eb86 kb86 rfl rfl List.mem_cons_self
        have q_I96 : FR Ws_X12_stairs Z0 I0 Z I96 := q_I.trans w0.1 w0.2.1 (f_I96.mono (by decide))
        have u98 : (I96 v0 19).toInt = (I v0 19).toInt := by rw [f_I96.2.2.1 v0 12 19 kv0 (by decide) (by decide)]
        have u99 : (I96 v0 0).toInt = (I v0 0).toInt := by rw [f_I96.2.2.1 v0 12 0 kv0 (by decide) (by decide)]
        have u100 : (I96 v0 7).toInt = (I v0 7).toInt := by rw [f_I96.2.2.1 v0 12 7 kv0 (by decide) (by decide)]
        intro x101 ex101
        have rx101 := i_rng x101
        first | (have tx101 : x101.toInt = v4.toInt + (1) := by (rw [ex101]; exact (i_add rfl (show (1 : Int32).toInt = 1 from rfl) (by omega) (by omega)))) | skip
        exact ih x101 Z I96 L w_I96 bd_Z q_I96 cp_Z   (by omega) (by omega) (by omega)
      · skip
        first | (have t102 : v4.toInt = (I b88 (((5 : Int32) * v3) + (3 : Int32)).toNatClampNeg).toInt := (i_eq rfl rfl).mp c93) | (have t102 : v4.toInt = (I b88 (((5 : Int32) * v3) + (3 : Int32)).toNatClampNeg).toInt := (i_eq rfl rfl).mp c93) | skip
        unfold f_X12_stairs_b225
        have o103 : vp_in (((8 : Int32) * v3) + v4) (jlen Z b86) := vi_of (i_add (i_mul (show (8 : Int32).toInt = 8 from rfl) rfl (by omega) (by omega)) rfl (by omega) (by omega)) (by omega) (by omega)
        refine ⟨o103, ?_⟩
        intro I104 eI104
        have t105 : (720 : Int32).toInt = 720 := rfl
        have w_I104 : WD Z I104 := by rw [eI104]; exact WD_putA w_I 12 5 kv0 eb86 kb86 rfl rfl (by decide) trivial
        have f_I104 : FR [(12, 5)] Z I Z I104 := by rw [eI104]; exact FR_upA w_I.2.1 kv0 eb86 kb86 rfl rfl List.mem_cons_self
        have q_I104 : FR Ws_X12_stairs Z0 I0 Z I104 := q_I.trans w0.1 w0.2.1 (f_I104.mono (by decide))
        have u106 : (I104 v0 19).toInt = (I v0 19).toInt := by rw [f_I104.2.2.1 v0 12 19 kv0 (by decide) (by decide)]
        have u107 : (I104 v0 0).toInt = (I v0 0).toInt := by rw [f_I104.2.2.1 v0 12 0 kv0 (by decide) (by decide)]
        have u108 : (I104 v0 7).toInt = (I v0 7).toInt := by rw [f_I104.2.2.1 v0 12 7 kv0 (by decide) (by decide)]
        intro x109 ex109
        have rx109 := i_rng x109
        first | (have tx109 : x109.toInt = v4.toInt + (1) := by (rw [ex109]; exact (i_add rfl (show (1 : Int32).toInt = 1 from rfl) (by omega) (by omega)))) | skip
        exact ih x109 Z I104 L w_I104 bd_Z q_I104 cp_Z   (by omega) (by omega) (by omega)
set_option maxHeartbeats 4000000 in
set_option maxRecDepth 100000 in
theorem l11_X12_stairs_L131 {B : Nat × Nat} {T : Nat} {Z0 : jZ} {I0 : jI} {Q : Int32 → jZ → jI → jL → Prop} (w0 : WD Z0 I0) (v0 : Nat) (kv0 : jk Z0 v0 12) (uM : Nat) (huM : jr Z0 v0 18 = some uM) (p0 : 0 ≤ (I0 v0 7).toInt ∧ (I0 v0 7).toInt ≤ 100000) (v1 : Int32) (hQ : ∀ (r : Int32) (Z' : jZ) (I' : jI) (L' : jL), WD Z' I' → BUD B Z' T → FR Ws_X12_stairs Z0 I0 Z' I' → CP Z0 Z' → ((I' v0 19).toInt = 0 ∧ r.toInt = stA (I0 uM) (I0 v0 19).toInt ∧ (0 ≤ r.toInt → (I' v0 0).toInt = r.toInt) ∧ (r.toInt < 0 → (I' v0 0).toInt = (I0 v0 0).toInt) ∧ (0 ≤ r.toInt → (I' v0 7).toInt = (I0 v0 7).toInt + 1) ∧ (r.toInt < 0 → (I' v0 7).toInt = (I0 v0 7).toInt)) → Q r Z' I' L') : ∀ (n : Nat) (v3 : Int32) (Z : jZ) (I : jI) (L : jL), WD Z I → BUD B Z T → FR Ws_X12_stairs Z0 I0 Z I → CP Z0 Z →   (0 ≤ v3.toInt ∧ v3.toInt ≤ 24 ∧ v1.toInt ≤ 24 ∧ (I v0 19).toInt = 0 ∧ v1.toInt = stA (I0 uM) (I0 v0 19).toInt ∧ 2 ≤ v1.toInt ∧ (I v0 0).toInt = v1.toInt ∧ (I v0 7).toInt = (I0 v0 7).toInt) → 24 - v3.toInt < (n : Int) → f_X12_stairs_L131 B  Q n v0 v1 v3 Z I L := by
  intro n
  induction n with
  | zero =>
    intro v3 Z I L w_I bd_Z q_I cp_Z   li  me
    exfalso
    omega
  | succ n ih =>
    intro v3 Z I L w_I bd_Z q_I cp_Z   li  me
    unfold f_X12_stairs_L131
    have rv3 := i_rng v3
    have rv1 := i_rng v1
    have kv0_0 := kv0
    have kv0 := (q_I.1 _ _ kv0).1
    have huM_1 : jr Z v0 18 = some uM := (q_I.2.1 v0 12 18 kv0_0 (by decide) (by decide)).trans huM
    have luM : jlen Z uM = 80 := by obtain ⟨b9, e9, -, l9⟩ := sh_f w_I.1 kv0 (j := 18) (k := 13) (m := 80) rfl; cases huM_1.symm.trans e9; exact l9
    have kuM : jk Z uM 13 := by obtain ⟨b9, e9, k9, -⟩ := sh_f w_I.1 kv0 (j := 18) (k := 13) (m := 80) rfl; cases huM_1.symm.trans e9; exact k9
    have t110 : 0 ≤ (I v0 19).toInt ∧ (I v0 19).toInt ≤ 80 := w_I.fld 12 19 kv0 (by decide)
    have t111 : 0 ≤ (I v0 0).toInt ∧ (I v0 0).toInt ≤ 24 := w_I.fld 12 0 kv0 (by decide)
    have xq_I := q_I.1
    refine ⟨fun c112 => ?_, fun c112 => ?_⟩
    · skip
      first | (have t113 : v1.toInt ≤ v3.toInt := (i_le rfl rfl).mp c112) | (have t113 : v1.toInt ≤ v3.toInt := (i_le rfl rfl).mp c112) | skip
      intro I114 eI114
      try (have t115 : ((I v0 7) + (1 : Int32)).toInt = ((I v0 7).toInt + (1)) := (i_add rfl (show (1 : Int32).toInt = 1 from rfl) (by omega) (by omega)))
      have w_I114 : WD Z I114 := by rw [eI114]; exact WD_putF w_I 12 7 kv0 (by decide) (by decide) trivial
      have f_I114 : FR [(12, 7)] Z I Z I114 := by rw [eI114]; exact FR_putF kv0 (by decide) List.mem_cons_self
      have q_I114 : FR Ws_X12_stairs Z0 I0 Z I114 := q_I.trans w0.1 w0.2.1 (f_I114.mono (by decide))
      have u116 : (I114 v0 19).toInt = (I v0 19).toInt := by rw [f_I114.2.2.1 v0 12 19 kv0 (by decide) (by decide)]
      have u117 : (I114 v0 0).toInt = (I v0 0).toInt := by rw [f_I114.2.2.1 v0 12 0 kv0 (by decide) (by decide)]
      first | (have u118 : (I114 v0 7).toInt = ((I v0 7).toInt + (1)) := by (rw [eI114, show jpI I v0 7 ((I v0 7) + (1 : Int32)) v0 7 = ((I v0 7) + (1 : Int32)) from jpI_at] <;> exact (i_add rfl (show (1 : Int32).toInt = 1 from rfl) (by omega) (by omega)))) | skip
      intro I119 eI119
      have t120 : (0 : Int32).toInt = 0 := rfl
      have w_I119 : WD Z I119 := by rw [eI119]; exact WD_putF w_I114 12 52 kv0 (by decide) (by decide) (by constructor <;> omega)
      have f_I119 : FR [(12, 52)] Z I114 Z I119 := by rw [eI119]; exact FR_putF kv0 (by decide) List.mem_cons_self
      have q_I119 : FR Ws_X12_stairs Z0 I0 Z I119 := q_I114.trans w0.1 w0.2.1 (f_I119.mono (by decide))
      have u121 : (I119 v0 19).toInt = (I114 v0 19).toInt := by rw [f_I119.2.2.1 v0 12 19 kv0 (by decide) (by decide)]
      have u122 : (I119 v0 0).toInt = (I114 v0 0).toInt := by rw [f_I119.2.2.1 v0 12 0 kv0 (by decide) (by decide)]
      have u123 : (I119 v0 7).toInt = (I114 v0 7).toInt := by rw [f_I119.2.2.1 v0 12 7 kv0 (by decide) (by decide)]
      first | (have u124 : (I119 v0 52).toInt = (0) := by (rw [eI119, show jpI I114 v0 52 (0 : Int32) v0 52 = (0 : Int32) from jpI_at] <;> exact (show (0 : Int32).toInt = 0 from rfl))) | skip
      have t125 : (0 : Int32).toInt = 0 := rfl
      exact ⟨(8 - (0 : Int32).toInt).toNat + 1, l11_X12_stairs_L280 w0 v0 kv0_0 uM huM p0 v1  hQ   _ (0 : Int32) Z I119 L w_I119 bd_Z q_I119 cp_Z   (by omega)  (by omega)⟩
    · skip
      first | (have t126 : ¬ (v1.toInt ≤ v3.toInt) := (not_congr (i_le rfl rfl)).mp c112) | (have t126 : ¬ (v1.toInt ≤ v3.toInt) := (not_congr (i_le rfl rfl)).mp c112) | skip
      intro b127 eb127
      obtain ⟨x128, ex128, kb127, lb127⟩ := sh_f w_I.1 kv0 (j := 1) (k := 14) (m := 24) rfl
      cases eb127.symm.trans ex128
      intro b129 eb129
      obtain ⟨x130, ex130, kb129, lb129⟩ := sh_f w_I.1 kv0 (j := 28) (k := 14) (m := 120) rfl
      cases eb129.symm.trans ex130
      have o131 : vp_in ((5 : Int32) * v3) 120 := vi_of (i_mul (show (5 : Int32).toInt = 5 from rfl) rfl (by omega) (by omega)) (by omega) (by omega)
      refine ⟨o131, ?_⟩
      have t133 := i_nat (x := ((5 : Int32) * v3)) (i_mul (show (5 : Int32).toInt = 5 from rfl) rfl (by omega) (by omega)) (by omega)
      have h132 : (((5 : Int32) * v3).toNatClampNeg % 5 = 0 → 0 ≤ (I b129 ((5 : Int32) * v3).toNatClampNeg).toInt ∧ (I b129 ((5 : Int32) * v3).toNatClampNeg).toInt ≤ 30) ∧ (((5 : Int32) * v3).toNatClampNeg % 5 = 1 → 0 ≤ (I b129 ((5 : Int32) * v3).toNatClampNeg).toInt ∧ (I b129 ((5 : Int32) * v3).toNatClampNeg).toInt ≤ 9) ∧ (((5 : Int32) * v3).toNatClampNeg % 5 = 2 → 0 ≤ (I b129 ((5 : Int32) * v3).toNatClampNeg).toInt ∧ (I b129 ((5 : Int32) * v3).toNatClampNeg).toInt ≤ 20) := w_I.arr 12 28 kv0 eb129 kb129 rfl rfl _
      first | (have h1321 := h132.1 (by omega)) | (have h1321 := h132.2.1 (by omega)) | (have h1321 := h132.2.2 (by omega)) | skip
      clear h132
      have o134 : vp_in v3 24 := vi_of rfl (by omega) (by omega)
      refine ⟨o134, ?_⟩
      intro I135 eI135
      have w_I135 : WD Z I135 := by rw [eI135]; exact WD_putA w_I 12 1 kv0 eb127 kb127 rfl rfl (by decide) (by constructor <;> omega)
      have f_I135 : FR [(12, 1)] Z I Z I135 := by rw [eI135]; exact FR_upA w_I.2.1 kv0 eb127 kb127 rfl rfl List.mem_cons_self
      have q_I135 : FR Ws_X12_stairs Z0 I0 Z I135 := q_I.trans w0.1 w0.2.1 (f_I135.mono (by decide))
      have u136 : (I135 v0 19).toInt = (I v0 19).toInt := by rw [f_I135.2.2.1 v0 12 19 kv0 (by decide) (by decide)]
      have u137 : (I135 v0 0).toInt = (I v0 0).toInt := by rw [f_I135.2.2.1 v0 12 0 kv0 (by decide) (by decide)]
      have u138 : (I135 v0 7).toInt = (I v0 7).toInt := by rw [f_I135.2.2.1 v0 12 7 kv0 (by decide) (by decide)]
      intro b139 eb139
      obtain ⟨x140, ex140, kb139, lb139⟩ := sh_f w_I135.1 kv0 (j := 2) (k := 14) (m := 24) rfl
      cases eb139.symm.trans ex140
      intro b141 eb141
      obtain rfl : b129 = b141 := Option.some.inj (eb129.symm.trans eb141)
      have o142 : vp_in (((5 : Int32) * v3) + (1 : Int32)) 120 := vi_of (i_add (i_mul (show (5 : Int32).toInt = 5 from rfl) rfl (by omega) (by omega)) (show (1 : Int32).toInt = 1 from rfl) (by omega) (by omega)) (by omega) (by omega)
      refine ⟨o142, ?_⟩
      have t144 := i_nat (x := (((5 : Int32) * v3) + (1 : Int32))) (i_add (i_mul (show (5 : Int32).toInt = 5 from rfl) rfl (by omega) (by omega)) (show (1 : Int32).toInt = 1 from rfl) (by omega) (by omega)) (by omega)
      have h143 : ((((5 : Int32) * v3) + (1 : Int32)).toNatClampNeg % 5 = 0 → 0 ≤ (I135 b129 (((5 : Int32) * v3) + (1 : Int32)).toNatClampNeg).toInt ∧ (I135 b129 (((5 : Int32) * v3) + (1 : Int32)).toNatClampNeg).toInt ≤ 30) ∧ ((((5 : Int32) * v3) + (1 : Int32)).toNatClampNeg % 5 = 1 → 0 ≤ (I135 b129 (((5 : Int32) * v3) + (1 : Int32)).toNatClampNeg).toInt ∧ (I135 b129 (((5 : Int32) * v3) + (1 : Int32)).toNatClampNeg).toInt ≤ 9) ∧ ((((5 : Int32) * v3) + (1 : Int32)).toNatClampNeg % 5 = 2 → 0 ≤ (I135 b129 (((5 : Int32) * v3) + (1 : Int32)).toNatClampNeg).toInt ∧ (I135 b129 (((5 : Int32) * v3) + (1 : Int32)).toNatClampNeg).toInt ≤ 20) := w_I135.arr 12 28 kv0 eb129 kb129 rfl rfl _
      first | (have h1431 := h143.1 (by omega)) | (have h1431 := h143.2.1 (by omega)) | (have h1431 := h143.2.2 (by omega)) | skip
      clear h143
      have o145 : vp_in v3 24 := vi_of rfl (by omega) (by omega)
      refine ⟨o145, ?_⟩
      intro I146 eI146
      have w_I146 : WD Z I146 := by rw [eI146]; exact WD_putA w_I135 12 2 kv0 eb139 kb139 rfl rfl (by decide) (by constructor <;> omega)
      have f_I146 : FR [(12, 2)] Z I135 Z I146 := by rw [eI146]; exact FR_upA w_I135.2.1 kv0 eb139 kb139 rfl rfl List.mem_cons_self
      have q_I146 : FR Ws_X12_stairs Z0 I0 Z I146 := q_I135.trans w0.1 w0.2.1 (f_I146.mono (by decide))
      have u147 : (I146 v0 19).toInt = (I135 v0 19).toInt := by rw [f_I146.2.2.1 v0 12 19 kv0 (by decide) (by decide)]
      have u148 : (I146 v0 0).toInt = (I135 v0 0).toInt := by rw [f_I146.2.2.1 v0 12 0 kv0 (by decide) (by decide)]
      have u149 : (I146 v0 7).toInt = (I135 v0 7).toInt := by rw [f_I146.2.2.1 v0 12 7 kv0 (by decide) (by decide)]
      intro b150 eb150
      obtain ⟨x151, ex151, kb150, lb150⟩ := sh_f w_I146.1 kv0 (j := 3) (k := 14) (m := 24) rfl
      cases eb150.symm.trans ex151
      intro b152 eb152
      obtain rfl : b129 = b152 := Option.some.inj (eb129.symm.trans eb152)
      have o153 : vp_in (((5 : Int32) * v3) + (2 : Int32)) 120 := vi_of (i_add (i_mul (show (5 : Int32).toInt = 5 from rfl) rfl (by omega) (by omega)) (show (2 : Int32).toInt = 2 from rfl) (by omega) (by omega)) (by omega) (by omega)
      refine ⟨o153, ?_⟩
      have t155 := i_nat (x := (((5 : Int32) * v3) + (2 : Int32))) (i_add (i_mul (show (5 : Int32).toInt = 5 from rfl) rfl (by omega) (by omega)) (show (2 : Int32).toInt = 2 from rfl) (by omega) (by omega)) (by omega)
      have h154 : ((((5 : Int32) * v3) + (2 : Int32)).toNatClampNeg % 5 = 0 → 0 ≤ (I146 b129 (((5 : Int32) * v3) + (2 : Int32)).toNatClampNeg).toInt ∧ (I146 b129 (((5 : Int32) * v3) + (2 : Int32)).toNatClampNeg).toInt ≤ 30) ∧ ((((5 : Int32) * v3) + (2 : Int32)).toNatClampNeg % 5 = 1 → 0 ≤ (I146 b129 (((5 : Int32) * v3) + (2 : Int32)).toNatClampNeg).toInt ∧ (I146 b129 (((5 : Int32) * v3) + (2 : Int32)).toNatClampNeg).toInt ≤ 9) ∧ ((((5 : Int32) * v3) + (2 : Int32)).toNatClampNeg % 5 = 2 → 0 ≤ (I146 b129 (((5 : Int32) * v3) + (2 : Int32)).toNatClampNeg).toInt ∧ (I146 b129 (((5 : Int32) * v3) + (2 : Int32)).toNatClampNeg).toInt ≤ 20) := w_I146.arr 12 28 kv0 eb129 kb129 rfl rfl _
      first | (have h1541 := h154.1 (by omega)) | (have h1541 := h154.2.1 (by omega)) | (have h1541 := h154.2.2 (by omega)) | skip
      clear h154
      have o156 : vp_in v3 24 := vi_of rfl (by omega) (by omega)
      refine ⟨o156, ?_⟩
      intro I157 eI157
      have w_I157 : WD Z I157 := by rw [eI157]; exact WD_putA w_I146 12 3 kv0 eb150 kb150 rfl rfl (by decide) (by constructor <;> omega)
      have f_I157 : FR [(12, 3)] Z I146 Z I157 := by rw [eI157]; exact FR_upA w_I146.2.1 kv0 eb150 kb150 rfl rfl List.mem_cons_self
      have q_I157 : FR Ws_X12_stairs Z0 I0 Z I157 := q_I146.trans w0.1 w0.2.1 (f_I157.mono (by decide))
      have u158 : (I157 v0 19).toInt = (I146 v0 19).toInt := by rw [f_I157.2.2.1 v0 12 19 kv0 (by decide) (by decide)]
      have u159 : (I157 v0 0).toInt = (I146 v0 0).toInt := by rw [f_I157.2.2.1 v0 12 0 kv0 (by decide) (by decide)]
      have u160 : (I157 v0 7).toInt = (I146 v0 7).toInt := by rw [f_I157.2.2.1 v0 12 7 kv0 (by decide) (by decide)]
      have t161 : (0 : Int32).toInt = 0 := rfl
      exact ⟨(8 - (0 : Int32).toInt).toNat + 1, l11_X12_stairs_L185 w0 v0 kv0_0 uM huM p0 v1 v3  hQ ih  _ (0 : Int32) Z I157 L w_I157 bd_Z q_I157 cp_Z   (by omega) (by omega) (by omega)⟩

set_option maxHeartbeats 4000000 in
theorem s11_X12_stairs {B : Nat × Nat} {T : Nat} {Z : jZ} {I : jI} {L : jL} (w : WD Z I) (bd : BUD B Z T) (v0 : Nat) (kv0 : jk Z v0 12) (uM : Nat) (huM : jr Z v0 18 = some uM) (p0 : 0 ≤ (I v0 7).toInt ∧ (I v0 7).toInt ≤ 100000) {Q : Int32 → jZ → jI → jL → Prop} (hQ : ∀ (r : Int32) (Z' : jZ) (I' : jI) (L' : jL), WD Z' I' → BUD B Z' T → FR Ws_X12_stairs Z I Z' I' → CP Z Z' → ((I' v0 19).toInt = 0 ∧ r.toInt = stA (I uM) (I v0 19).toInt ∧ (0 ≤ r.toInt → (I' v0 0).toInt = r.toInt) ∧ (r.toInt < 0 → (I' v0 0).toInt = (I v0 0).toInt) ∧ (0 ≤ r.toInt → (I' v0 7).toInt = (I v0 7).toInt + 1) ∧ (r.toInt < 0 → (I' v0 7).toInt = (I v0 7).toInt)) → Q r Z' I' L') : f_X12_stairs B v0 Z I L Q := by
  obtain ⟨b9, e9, kuM, l9⟩ := sh_f w.1 kv0 (j := 18) (k := 13) (m := 80) rfl
  cases huM.symm.trans e9
  have hne : uM ≠ v0 := fun e => by subst e; have := kv0.2.symm.trans kuM.2; omega
  have sz : 0 ≤ (I v0 19).toInt ∧ (I v0 19).toInt ≤ 80 := w.fld 12 19 kv0 (by decide)
  unfold f_X12_stairs
  intro I1 e1 b eb
  cases huM.symm.trans eb
  have w1 : WD Z I1 := by rw [e1]; exact WD_putF w 12 22 kv0 (by decide) (by decide) trivial
  have f1 : FR Ws_X12_stairs Z I Z I1 := by rw [e1]; exact FR_putF kv0 (by decide) (by decide)
  have z1 : I1 v0 19 = I v0 19 := by rw [e1, jpI_o (by decide)]
  have b1 : I1 uM = I uM := by rw [e1, jpI_ne hne]
  refine s_X12_begin w1 bd v0 uM (I1 v0 19) 76 kv0 kuM v0 12 18 kv0 huM (fun Z2 I2 L2 w2 bd2 f2 cp2 p2 => ?_)
  obtain ⟨r2, p24, p25, p26, p27⟩ := p2
  intro I3 e3
  have k2 : jk Z2 v0 12 := (f2.1 _ _ kv0).1
  have kM2 : jk Z2 uM 13 := (f2.1 _ _ kuM).1
  have lM2 : jlen Z2 uM = 80 := (f2.1 _ _ kuM).2.trans l9
  have h2M : jr Z2 v0 18 = some uM := (f2.2.1 v0 12 18 kv0 (by decide) (by decide)).trans huM
  have b2 : I2 uM = I1 uM := f2.2.2.2 v0 12 18 uM kv0 huM (by rw [kuM.2]; rfl) rfl (by decide)
  have w3 : WD Z2 I3 := by rw [e3]; exact WD_putF w2 12 19 k2 (by decide) (by decide) (show rg 0 80 _ from ⟨by decide, by decide⟩)
  have f2' : FR Ws_X12_stairs Z I Z2 I2 := f1.trans w.1 w.2.1 (f2.mono (by decide))
  have f3 : FR Ws_X12_stairs Z I Z2 I3 := f2'.trans w.1 w.2.1 (by rw [e3]; exact FR_putF k2 (by decide) (by decide))
  have b3 : I3 uM = I uM := by rw [e3, jpI_ne hne, b2, b1]
  have z3 : (I3 v0 19).toInt = 0 := by rw [e3, jpI_at]; rfl
  have t : MT Z2 I3 v0 uM (I v0 19).toInt := ⟨w3, k2, h2M, r2, kM2, lM2, sz.1, sz.2⟩
  have s : MR Z2 I3 v0 (I v0 19).toInt I3 0 (-1) := by
    refine ⟨w3, FR.rf, ?_, ?_, ?_, ?_⟩
    · rw [e3, jpI_o (by decide)]; exact p26
    · rw [e3, jpI_o (by decide)]; exact p27
    · rw [e3, jpI_o (by decide), p24, z1]
    · rw [e3, jpI_o (by decide)]; exact p25
  have fin : ∀ (r : Int32) (I' : jI) (a' F' : Int), MR Z2 I3 v0 (I v0 19).toInt I' a' F' → r.toInt = stA (I uM) (I v0 19).toInt → r.toInt < 0 → Q r Z2 I' L2 := by
    intro r I' a' F' s' e' hr
    refine hQ r Z2 I' L2 s'.1 bd2 (f3.trans w.1 w.2.1 (s'.2.1.mono (by decide))) cp2 ⟨?_, e', fun q => by omega, fun _ => ?_, fun q => by omega, fun _ => ?_⟩
    · rw [s'.2.1.2.2.1 v0 12 19 k2 (by decide) (by decide)]
      exact z3
    · rw [s'.2.1.2.2.1 v0 12 0 k2 (by decide) (by decide), e3, jpI_o (by decide), f2.2.2.1 v0 12 0 kv0 (by decide) (by decide), e1, jpI_o (by decide)]
    · rw [s'.2.1.2.2.1 v0 12 7 k2 (by decide) (by decide), e3, jpI_o (by decide), f2.2.2.1 v0 12 7 kv0 (by decide) (by decide), e1, jpI_o (by decide)]
  have z0 : (0 : Int32).toInt = 0 := rfl
  have e24 : (I3 v0 24).toInt = (I v0 19).toInt := s.2.2.2.2.1
  unfold f_X12_stairs_b38
  refine ⟨fun c => ?_, fun c => ?_⟩
  · have c := (i_le e24 z0).mp c
    have hS : stA (I uM) (I v0 19).toInt = -100 := by unfold stA; rw [if_pos c]
    refine ⟨1, ?_⟩
    unfold f_X12_stairs_L39
    refine ⟨fun _ => ?_, fun c => absurd rfl c⟩
    have b102 : f_X12_stairs_b102 B Q v0 0 Z2 I3 L2 := by
      unfold f_X12_stairs_b102
      refine m_fine s (fun _ => ⟨fun _ => ⟨fun c1 => absurd c1 (by decide), fun _ => fin _ I3 0 (-1) s (by rw [hS]; rfl) (by decide)⟩, fun c => absurd c (by decide)⟩) (fun c => absurd rfl c)
    unfold f_X12_stairs_b83
    refine ⟨fun _ => b102, fun c1 => ?_⟩
    exact absurd ((i_le e24 s.2.2.1).mpr (by omega)) c1
  · have c := (not_congr (i_le e24 z0)).mp c
    refine ⟨79, m_lines t (fun I' a F v1 s' e => ?_) 79 77 0 0 I3 s (by rw [z0]; omega) (by rw [z0]; omega) (by omega) (by omega) (by omega) (by omega) (by rw [z0])⟩
    refine m_b83 t s' (by omega) e (fun r I'' a' F' s'' e' hr => fin r I'' a' F' s'' (by rw [b3] at e'; exact e') hr) (fun I'' a' F' s'' e' h2 I66 e66 => ?_)
    rw [b3] at e'
    have v24 : v1.toInt ≤ 24 := by
      have := rdS_hi (g := GS (I3 uM) (min (I v0 19).toInt 76)) (lim := min (I v0 19).toInt 76) 77 0 0 (by omega) (by omega)
      rcases e with ⟨q1, q2⟩ | ⟨q1, q2, q0, q3⟩ | ⟨q1, q2, q3⟩
      · rw [← q2] at this; exact this
      · rw [← q3] at this; exact this
      · rw [← q3] at this; exact this
    have w66 : WD Z2 I66 := by rw [e66]; exact WD_putF s''.1 12 0 k2 (by decide) (by decide) (show rg 0 24 _ from ⟨by omega, by omega⟩)
    have f66 : FR Ws_X12_stairs Z I Z2 I66 := (f3.trans w.1 w.2.1 (s''.2.1.mono (by decide))).trans w.1 w.2.1 (by rw [e66]; exact FR_putF k2 (by decide) (by decide))
    have z66 : (I66 v0 19).toInt = 0 := by
      rw [e66, jpI_o (by decide), s''.2.1.2.2.1 v0 12 19 k2 (by decide) (by decide)]
      exact z3
    have z60 : (I66 v0 0).toInt = v1.toInt := by rw [e66, jpI_at]
    have z67 : (I66 v0 7).toInt = (I v0 7).toInt := by rw [e66, jpI_o (by decide), s''.2.1.2.2.1 v0 12 7 k2 (by decide) (by decide), e3, jpI_o (by decide), f2.2.2.1 v0 12 7 kv0 (by decide) (by decide), e1, jpI_o (by decide)]
    exact ⟨25, l11_X12_stairs_L131 w v0 kv0 uM huM p0 v1 hQ 25 0 Z2 I66 L2 w66 bd2 f66 cp2 (by rw [z0]; omega) (by rw [z0]; omega)⟩

/-! ===== what is kept: which boxes hold ===== -/
/-- the boxes that hold, on both sides -/
def HK (Z : jZ) (I : jI) (uS v2 uK uC : Nat) : Prop := 0 ≤ (I v2 7).toInt ∧ ∀ i b, i < 2 → jr Z uS i = some b → jk Z b 2 ∧ (0 ≤ (I uC i).toInt ∧ (I uC i).toInt ≤ (I v2 7).toInt) ∧ (¬ I b 8 = 0 ↔ (¬ I uK i = 0 ∧ I uC i = I v2 7))
theorem HK_fr {W : List (Nat × Nat)} {Z Z' : jZ} {I I' : jI} {uS v2 uK uC : Nat} (f : FR W Z I Z' I') (kS : jk Z uS 17) (k2 : jk Z v2 12) (hK : jr Z v2 63 = some uK) (kK : jk Z uK 16) (hC : jr Z v2 64 = some uC) (kC : jk Z uC 14) (n1 : (2, 8) ∉ W) (n2 : (12, 7) ∉ W) (n3 : (12, 63) ∉ W) (n4 : (12, 64) ∉ W) (h : HK Z I uS v2 uK uC) : HK Z' I' uS v2 uK uC := by
  have e7 := f.2.2.1 v2 12 7 k2 (by decide) n2
  have eK : I' uK = I uK := f.2.2.2 v2 12 63 uK k2 hK (by rw [kK.2]; rfl) rfl n3
  have eC : I' uC = I uC := f.2.2.2 v2 12 64 uC k2 hC (by rw [kC.2]; rfl) rfl n4
  refine ⟨by rw [e7]; exact h.1, fun i b hi hb => ?_⟩
  rw [f.2.1 uS 17 i kS (by omega) (by omega)] at hb
  obtain ⟨kb, h1, h2⟩ := h.2 i b hi hb
  have e8 := f.2.2.1 b 2 8 kb (by decide) n1
  rw [e7, eK, eC, e8]
  exact ⟨(f.1 _ _ kb).1, h1, h2⟩
theorem HK_frp {Z Z' : jZ} {I I' : jI} {uS v2 uK uC : Nat} (f : FRp Z I Z' I') (x : jext Z Z') (kS : jk Z uS 17) (k2 : jk Z v2 12) (kK : jk Z uK 16) (kC : jk Z uC 14) (h : HK Z I uS v2 uK uC) : HK Z' I' uS v2 uK uC := by
  have e7 := f.2 v2 12 7 k2 (by decide)
  refine ⟨by rw [e7]; exact h.1, fun i b hi hb => ?_⟩
  rw [f.1 uS 17 i kS (by decide)] at hb
  obtain ⟨kb, h1, h2⟩ := h.2 i b hi hb
  rw [e7, f.2 uK 16 i kK (by omega), f.2 uC 14 i kC (by omega), f.2 b 2 8 kb (by decide)]
  exact ⟨(x _ _ kb).1, h1, h2⟩
theorem hk_L38 {Z : jZ} {J : jI} (wJ : WD Z J) (v0 : Nat) (kv0 : jk Z v0 11) (v1 : Int32) {Q : Int32 → jI → jL → Prop}
    (hX : ∀ (I : jI) (L : jL), WD Z I → FR Ws_X5_startAnew Z J Z I → (∀ b10 : Nat, jr Z v0 5 = some b10 → (f_J7_fill_53178 b10 (0 : Int32) Z I L (fun I13 L14 => (∃ m76 : Nat, f_X11_stairs_L76 Z Q m76 v0 v1 (0 : Int32) I13 L14))))) :
    ∀ (n : Nat) (v2 : Int32) (I : jI) (L : jL), WD Z I → FR Ws_X5_startAnew Z J Z I → 0 ≤ v2.toInt → v2.toInt ≤ 6 → 7 ≤ (n : Int) + v2.toInt → f_X11_stairs_L38 Z Q n v0 v1 v2 I L := by
  intro n
  induction n with
  | zero => intro v2 I L w f h0 h1 h2; exfalso; omega
  | succ n ih =>
    intro v2 I L w f h0 h1 h2
    unfold f_X11_stairs_L38
    refine ⟨fun _ => hX I L w f, fun c => ?_⟩
    have c := (not_congr (i_le rfl rfl)).mp c
    have t4 : 0 ≤ (I v0 4).toInt ∧ (I v0 4).toInt ≤ 6 := w.fld 11 4 kv0 (by decide)
    refine s_X11_find w v0 v2 kv0 (fun r p => ⟨fun _ => ?_, fun b hb => ?_⟩)
    · unfold f_X11_stairs_b60
      intro x8 e8
      have t8 : x8.toInt = v2.toInt + 1 := by rw [e8]; exact i_add rfl (show (1 : Int32).toInt = 1 from rfl) (by omega) (by omega)
      exact ih x8 I L w f (by omega) (by omega) (by omega)
    · refine s_X5_startAnew w b (p.1 b hb).1 (fun I' L' w' f' => ?_)
      unfold f_X11_stairs_b60
      intro x8 e8
      have t8 : x8.toInt = v2.toInt + 1 := by rw [e8]; exact i_add rfl (show (1 : Int32).toInt = 1 from rfl) (by omega) (by omega)
      exact ih x8 I' L' w' (f.trans wJ.1 wJ.2.1 f') (by omega) (by omega) (by omega)
theorem hk_L76 {Z : jZ} {J : jI} (wJ : WD Z J) (v0 : Nat) (v1 : Int32) (uS : Nat) (huS : jr Z v0 8 = some uS) (kS : jk Z uS 17) (lS : jlen Z uS = 2) {Q : Int32 → jI → jL → Prop}
    (hQ : ∀ (I : jI) (L : jL), WD Z I → FR [(2, 8)] Z J Z I → (∀ i b, i < 2 → jr Z uS i = some b → I b 8 = 0) → Q v1 I L) :
    ∀ (n i : Nat) (v2 : Int32) (I : jI) (L : jL), WD Z I → FR [(2, 8)] Z J Z I → v2.toInt = (i : Int) → i ≤ 2 → (∀ k b, k < i → jr Z uS k = some b → I b 8 = 0) → 3 ≤ n + i → f_X11_stairs_L76 Z Q n v0 v1 v2 I L := by
  intro n
  induction n with
  | zero => intro i v2 I L w f e h1 h2 h3; exfalso; omega
  | succ n ih =>
    intro i v2 I L w f e h1 h2 h3
    unfold f_X11_stairs_L76
    intro b1 e1
    cases huS.symm.trans e1
    refine ⟨fun c => ?_, fun c => ?_⟩
    · have c := (i_le (show (2 : Int32).toInt = 2 from rfl) e).mp c
      exact hQ I L w f (fun k b hk hb => h2 k b (by omega) hb)
    have c := (not_congr (i_le (show (2 : Int32).toInt = 2 from rfl) e)).mp c
    have n2 := i_nat e (by omega)
    have n2 : v2.toNatClampNeg = i := by omega
    intro b3 e3
    cases huS.symm.trans e3
    refine ⟨vi_of e (by omega) (by omega), ?_⟩
    intro b5 e5
    rw [n2] at e5
    obtain ⟨x, ex, kx⟩ := w.1.2.2.1 uS kS i (by rw [lS]; omega)
    cases e5.symm.trans ex
    intro I6 e6 x7 e7
    have w6 : WD Z I6 := by rw [e6]; exact WD_putF w 2 8 kx (by decide) (by decide) trivial
    have f6 : FR [(2, 8)] Z I Z I6 := by rw [e6]; exact FR_putF kx (by decide) List.mem_cons_self
    refine ih (i + 1) x7 I6 L w6 (f.trans wJ.1 wJ.2.1 f6) (by rw [e7]; exact (i_add e (show (1 : Int32).toInt = 1 from rfl) (by omega) (by omega)).trans (by omega)) (by omega) (fun k b hk hb => ?_) (by omega)
    by_cases hbb : b = b5
    · rw [hbb, e6, jpI_at]
    · rw [e6, jpI_ne hbb]
      by_cases hki : k = i
      · rw [hki, e5] at hb
        exact absurd (Option.some.inj hb).symm hbb
      · exact h2 k b (by omega) hb
theorem s11_X11_stairs {Z : jZ} {I : jI} {L : jL} (w : WD Z I) (v0 : Nat) (kv0 : jk Z v0 11) (uT : Nat) (huT : jr Z v0 0 = some uT) (uB : Nat) (huB : jr Z uT 0 = some uB) (uF : Nat) (huF : jr Z v0 2 = some uF) (uN : Nat) (huN : jr Z v0 1 = some uN) (p0 : BY (I uB)) (uS : Nat) (huS : jr Z v0 8 = some uS) {Q : Int32 → jI → jL → Prop}
    (hQ : ∀ (r : Int32) (I' : jI) (L' : jL), WD Z I' → FR Ws_X11_stairs Z I Z I' → ((I' uT 1).toInt = 0 ∧ r.toInt = stA (I uB) (I uT 1).toInt ∧ (0 ≤ r.toInt → (I' uF 9).toInt = r.toInt) ∧ (r.toInt < 0 → (I' uF 9).toInt = (I uF 9).toInt) ∧ (r.toInt < 0 → ∀ b, jk Z b 2 → I' b 8 = I b 8) ∧ (0 ≤ r.toInt → ∀ i b, i < 2 → jr Z uS i = some b → I' b 8 = 0)) → Q r I' L') : f_X11_stairs v0 Z I L Q := by
  have kT : jk Z uT 10 := by obtain ⟨b9, e9, k9⟩ := sh_o w.1 kv0 (j := 0) (k := 10) rfl; cases huT.symm.trans e9; exact k9
  have kF : jk Z uF 8 := by obtain ⟨b9, e9, k9⟩ := sh_o w.1 kv0 (j := 2) (k := 8) rfl; cases huF.symm.trans e9; exact k9
  have kN : jk Z uN 9 := by obtain ⟨b9, e9, k9⟩ := sh_o w.1 kv0 (j := 1) (k := 9) rfl; cases huN.symm.trans e9; exact k9
  obtain ⟨x, ex, kS, lS⟩ := sh_f w.1 kv0 (j := 8) (k := 17) (m := 2) rfl
  cases huS.symm.trans ex
  obtain ⟨uE, hE, kE, lE⟩ := sh_f w.1 kv0 (j := 5) (k := 14) (m := 8) rfl
  unfold f_X11_stairs
  intro b33 e33
  cases huN.symm.trans e33
  intro b34 e34
  cases huT.symm.trans e34
  refine s10_X9_read w uN uT kN kT uB huB p0 (fun r I1 L1 w1 f1 p1 => ?_)
  intro b42 e42
  cases huT.symm.trans e42
  refine s9_X10_clear w1 uT kT (fun I2 L2 w2 f2 p2 => ?_)
  have g2 : FR Ws_X11_stairs Z I Z I2 := (f1.mono (by decide)).trans w.1 w.2.1 (f2.mono (by decide))
  refine ⟨fun c => ?_, fun c => ?_⟩
  · have c := (i_le (x := 0) (y := r) (show (0 : Int32).toInt = 0 from rfl) rfl).mp c
    intro b50 e50
    cases huF.symm.trans e50
    intro b51 e51
    cases huN.symm.trans e51
    refine s10_X8_build w2 uF uN kF kN (fun I3 L3 w3 f3 p3 => ?_)
    have g3 : FR Ws_X11_stairs Z I Z I3 := g2.trans w.1 w.2.1 (f3.mono (by decide))
    have s3 : (I3 uF 9).toInt = r.toInt := by rw [p3, f2.2.2.1 uN 9 5 kN (by decide) (by decide)]; exact p1.2 c
    have t3 : (I3 uT 1).toInt = 0 := by rw [f3.2.2.1 uT 10 1 kT (by decide) (by decide)]; exact p2
    refine ⟨7, hk_L38 w3 v0 kv0 r (fun I4 L4 w4 f4 => ?_) 7 0 I3 L3 w3 FR.rf (by decide) (by decide) (by decide)⟩
    intro b10 e10
    cases hE.symm.trans e10
    have g4 : FR Ws_X11_stairs Z I Z I4 := g3.trans w.1 w.2.1 (f4.mono (by decide))
    refine s_J7_fill_53178 w4 uE 0 kE v0 11 5 kv0 hE (by decide) rfl (by rw [lE]; omega) (fun _ => trivial) (fun I5 L5 w5 f5 => ?_)
    have g5 : FR Ws_X11_stairs Z I Z I5 := g4.trans w.1 w.2.1 (f5.mono (by decide))
    refine ⟨3, hk_L76 w5 v0 r uS huS kS lS (fun I6 L6 w6 f6 z6 => ?_) 3 0 0 I5 L5 w5 FR.rf rfl (by omega) (fun k b hk => absurd hk (Nat.not_lt_zero k)) (by omega)⟩
    refine hQ r I6 L6 w6 (g5.trans w.1 w.2.1 (f6.mono (by decide))) ⟨?_, p1.1, fun _ => ?_, fun h => absurd c (by omega), fun h => absurd c (by omega), fun _ => z6⟩
    · rw [f6.2.2.1 uT 10 1 kT (by decide) (by decide), f5.2.2.1 uT 10 1 kT (by decide) (by decide), f4.2.2.1 uT 10 1 kT (by decide) (by decide)]; exact t3
    · rw [f6.2.2.1 uF 8 9 kF (by decide) (by decide), f5.2.2.1 uF 8 9 kF (by decide) (by decide), f4.2.2.1 uF 8 9 kF (by decide) (by decide)]; exact s3
  · have c := (not_congr (i_le (x := 0) (y := r) (show (0 : Int32).toInt = 0 from rfl) rfl)).mp c
    refine hQ r I2 L2 w2 g2 ⟨p2, p1.1, fun h => absurd h c, fun _ => ?_, fun _ b kb => ?_, fun h => absurd h c⟩
    · rw [f2.2.2.1 uF 8 9 kF (by decide) (by decide), f1.2.2.1 uF 8 9 kF (by decide) (by decide)]
    · rw [f2.2.2.1 b 2 8 kb (by decide) (by decide), f1.2.2.1 b 2 8 kb (by decide) (by decide)]
theorem HK_stairs {Z Z2 : jZ} {I0 I1 I2 : jI} {uS v2 uK uC : Nat} {r1 r2 : Int} (h : HK Z I0 uS v2 uK uC) (f1 : FR Ws_X11_stairs Z I0 Z I1) (f2 : FR Ws_X12_stairs Z I1 Z2 I2) (kS : jk Z uS 17) (k2 : jk Z v2 12) (hK : jr Z v2 63 = some uK) (kK : jk Z uK 16) (hC : jr Z v2 64 = some uC) (kC : jk Z uC 14) (er : r1 = r2)
    (p1 : (r1 < 0 → ∀ b, jk Z b 2 → I1 b 8 = I0 b 8) ∧ (0 ≤ r1 → ∀ i b, i < 2 → jr Z uS i = some b → I1 b 8 = 0)) (p2 : (0 ≤ r2 → (I2 v2 7).toInt = (I1 v2 7).toInt + 1) ∧ (r2 < 0 → (I2 v2 7).toInt = (I1 v2 7).toInt)) : HK Z2 I2 uS v2 uK uC := by
  have e7 := congrArg Int32.toInt (f1.2.2.1 v2 12 7 k2 (by decide) (by decide))
  have eK : I2 uK = I0 uK := (f2.2.2.2 v2 12 63 uK k2 hK (by rw [kK.2]; rfl) rfl (by decide)).trans (f1.2.2.2 v2 12 63 uK k2 hK (by rw [kK.2]; rfl) rfl (by decide))
  have eC : I2 uC = I0 uC := (f2.2.2.2 v2 12 64 uC k2 hC (by rw [kC.2]; rfl) rfl (by decide)).trans (f1.2.2.2 v2 12 64 uC k2 hC (by rw [kC.2]; rfl) rfl (by decide))
  have h0 := h.1
  by_cases c : 0 ≤ r1
  · have q2 := p2.1 (by omega)
    refine ⟨by omega, fun i b hi hb => ?_⟩
    rw [f2.2.1 uS 17 i kS (by omega) (by omega)] at hb
    obtain ⟨kb, hle, hiff⟩ := h.2 i b hi hb
    have e8 : I2 b 8 = 0 := (f2.2.2.1 b 2 8 kb (by decide) (by decide)).trans (p1.2 c i b hi hb)
    rw [eC]
    refine ⟨(f2.1 _ _ kb).1, by omega, fun hn => absurd e8 hn, fun hn => ?_⟩
    have := congrArg Int32.toInt hn.2
    omega
  · have q2 := p2.2 (by omega)
    have e7' : I2 v2 7 = I0 v2 7 := (i_eq rfl rfl).mpr (by omega)
    refine ⟨by omega, fun i b hi hb => ?_⟩
    rw [f2.2.1 uS 17 i kS (by omega) (by omega)] at hb
    obtain ⟨kb, hle, hiff⟩ := h.2 i b hi hb
    have e8 : I2 b 8 = I0 b 8 := (f2.2.2.1 b 2 8 kb (by decide) (by decide)).trans (p1.1 (by omega) b kb)
    rw [eC, eK, e8, e7']
    exact ⟨(f2.1 _ _ kb).1, hle, hiff⟩
/-- keep: the box alone -/
def KP11 (Z : jZ) (uS : Nat) (v : Int32) (r : Int) (I I' : jI) : Prop := (r = 1 ∧ (0 ≤ v.toInt ∧ v.toInt ≤ 1) ∧ ∀ i b, i < 2 → jr Z uS i = some b → (i = v.toNatClampNeg → ¬ I' b 8 = 0) ∧ (¬ i = v.toNatClampNeg → I' b 8 = I b 8)) ∨ (r = 0 ∧ ¬ (0 ≤ v.toInt ∧ v.toInt ≤ 1) ∧ ∀ b, jk Z b 2 → I' b 8 = I b 8)
def KP12 (v2 uK uC : Nat) (v : Int32) (r : Int) (I I' : jI) : Prop := (r = 1 ∧ (0 ≤ v.toInt ∧ v.toInt ≤ 1) ∧ ¬ I' uK v.toNatClampNeg = 0 ∧ I' uC v.toNatClampNeg = I v2 7 ∧ ∀ i, ¬ i = v.toNatClampNeg → I' uK i = I uK i ∧ I' uC i = I uC i) ∨ (r = 0 ∧ ¬ (0 ≤ v.toInt ∧ v.toInt ≤ 1) ∧ I' uK = I uK ∧ I' uC = I uC)
theorem kp_L55 {Z : jZ} {J : jI} (wJ : WD Z J) (v0 : Nat) (kv0 : jk Z v0 11) (v2 : Nat) (kv2 : jk Z v2 2) {Q : Int32 → jI → jL → Prop}
    (hQ : ∀ (I I3 : jI) (L : jL), WD Z I → FR Ws_X2_putPilgrim Z J Z I → I3 = jpI I v2 8 (1 : Int32) → Q (1 : Int32) I3 L) :
    ∀ (n : Nat) (v3 : Int32) (I : jI) (L : jL), WD Z I → FR Ws_X2_putPilgrim Z J Z I → 0 ≤ v3.toInt → v3.toInt ≤ 6 → 7 ≤ (n : Int) + v3.toInt → f_X11_keep_L55 Z Q n v0 v2 v3 I L := by
  intro n
  induction n with
  | zero => intro v3 I L w f h0 h1 h2; exfalso; omega
  | succ n ih =>
    intro v3 I L w f h0 h1 h2
    unfold f_X11_keep_L55
    refine ⟨fun _ I3 e3 => hQ I I3 L w f e3, fun c => ?_⟩
    have c := (not_congr (i_le rfl rfl)).mp c
    have t4 : 0 ≤ (I v0 4).toInt ∧ (I v0 4).toInt ≤ 6 := w.fld 11 4 kv0 (by decide)
    refine s_X11_find w v0 v3 kv0 (fun r p => ⟨fun _ => ?_, fun b hb => ?_⟩)
    · unfold f_X11_keep_b82
      intro x8 e8
      have t8 : x8.toInt = v3.toInt + 1 := by rw [e8]; exact i_add rfl (show (1 : Int32).toInt = 1 from rfl) (by omega) (by omega)
      exact ih x8 I L w f (by omega) (by omega) (by omega)
    · refine s_X2_putPilgrim w v2 v3 b kv2 (p.1 b hb).1 (fun I' L' w' f' => ?_)
      unfold f_X11_keep_b82
      intro x8 e8
      have t8 : x8.toInt = v3.toInt + 1 := by rw [e8]; exact i_add rfl (show (1 : Int32).toInt = 1 from rfl) (by omega) (by omega)
      exact ih x8 I' L' w' (f.trans wJ.1 wJ.2.1 f') (by omega) (by omega) (by omega)
theorem s9_X11_keep {Z : jZ} {I : jI} {L : jL} (w : WD Z I) (v0 : Nat) (v1 : Int32) (kv0 : jk Z v0 11) (uS : Nat) (huS : jr Z v0 8 = some uS) {Q : Int32 → jI → jL → Prop} (hQ : ∀ (r : Int32) (I' : jI) (L' : jL), WD Z I' → FR Ws_X11_keep Z I Z I' → KP11 Z uS v1 r.toInt I I' → Q r I' L') : f_X11_keep v0 v1 Z I L Q := by
  obtain ⟨x, ex, kS, lS⟩ := sh_f w.1 kv0 (j := 8) (k := 17) (m := 2) rfl
  cases huS.symm.trans ex
  obtain ⟨uF, huF, kF⟩ := sh_o w.1 kv0 (j := 2) (k := 8) rfl
  obtain ⟨uE, hE, kE, lE⟩ := sh_f w.1 kv0 (j := 5) (k := 14) (m := 8) rfl
  have bad : ¬ (0 ≤ v1.toInt ∧ v1.toInt ≤ 1) → Q (0 : Int32) I L := fun h => hQ _ I L w FR.rf (Or.inr ⟨rfl, h, fun _ _ => rfl⟩)
  unfold f_X11_keep
  refine ⟨fun c => bad (by have c := (i_lt (x := v1) (y := 0) rfl (show (0 : Int32).toInt = 0 from rfl)).mp c; omega), fun c => ?_⟩
  have c := (not_congr (i_lt (x := v1) (y := 0) rfl (show (0 : Int32).toInt = 0 from rfl))).mp c
  intro b20 e20
  cases huS.symm.trans e20
  refine ⟨fun c2 => ?_, fun c2 => bad (by have c2 := (not_congr (i_lt (x := v1) (y := 2) rfl (show (2 : Int32).toInt = 2 from rfl))).mp c2; omega)⟩
  have c2 := (i_lt (x := v1) (y := 2) rfl (show (2 : Int32).toInt = 2 from rfl)).mp c2
  have n1 := i_nat (x := v1) rfl (by omega)
  intro b22 e22
  cases huS.symm.trans e22
  refine ⟨vi_of rfl (by omega) (by omega), ?_⟩
  intro b24 e24
  obtain ⟨y, ey, ky⟩ := w.1.2.2.1 uS kS v1.toNatClampNeg (by rw [lS]; omega)
  cases e24.symm.trans ey
  intro b25 e25
  cases huF.symm.trans e25
  refine s_X2_putStairs w b24 uF ky kF (fun I1 L1 w1 f1 => ?_)
  intro b32 e32
  cases hE.symm.trans e32
  intro b33 e33
  obtain ⟨uG, hG, kG, lG⟩ := sh_f w.1 ky (j := 3) (k := 14) (m := 8) rfl
  cases hG.symm.trans e33
  refine ⟨by decide, ?_⟩
  intro I35 e35 I36 e36
  have w35 : WD Z I35 := by rw [e35]; exact WD_cpy w1 2 3 ky hG kG rfl rfl (by decide) (fun _ _ _ => trivial)
  have f35 : FR [(2, 3)] Z I1 Z I35 := by rw [e35]; exact FR_upA w1.2.1 ky hG kG rfl rfl List.mem_cons_self
  have w36 : WD Z I36 := by rw [e36]; exact WD_putF w35 2 7 ky (by decide) (by decide) trivial
  have f36 : FR [(2, 7)] Z I35 Z I36 := by rw [e36]; exact FR_putF ky (by decide) List.mem_cons_self
  have g36 : FR Ws_X11_keep Z I Z I36 := ((f1.mono (by decide)).trans w.1 w.2.1 (f35.mono (by decide))).trans w.1 w.2.1 (f36.mono (by decide))
  refine ⟨7, kp_L55 w36 v0 kv0 b24 ky (fun I4 I5 L4 w4 f4 e5 => ?_) 7 0 I36 L1 w36 FR.rf (by decide) (by decide) (by decide)⟩
  have w5 : WD Z I5 := by rw [e5]; exact WD_putF w4 2 8 ky (by decide) (by decide) trivial
  have f5 : FR [(2, 8)] Z I4 Z I5 := by rw [e5]; exact FR_putF ky (by decide) List.mem_cons_self
  refine hQ _ I5 L4 w5 ((g36.trans w.1 w.2.1 (f4.mono (by decide))).trans w.1 w.2.1 (f5.mono (by decide))) (Or.inl ⟨rfl, by omega, fun i b hi hb => ⟨fun hv => ?_, fun hv => ?_⟩⟩)
  · rw [hv, e24] at hb
    cases hb
    rw [e5, jpI_at]
    decide
  · obtain ⟨y2, ey2, kb⟩ := w.1.2.2.1 uS kS i (by rw [lS]; exact hi)
    cases hb.symm.trans ey2
    have hne : b ≠ b24 := fun e => hv (by rw [e] at hb; exact (w.2.1.2.2 uS 17 i uS 17 v1.toNatClampNeg b24 kS kS hb e24 (by simp [jsr]) (by simp [jsr])).2)
    rw [e5, jpI_ne hne, f4.2.2.1 b 2 8 kb (by decide) (by decide), f36.2.2.1 b 2 8 kb (by decide) (by decide), f35.2.2.1 b 2 8 kb (by decide) (by decide), f1.2.2.1 b 2 8 kb (by decide) (by decide)]
theorem s9_X12_keep {Z : jZ} {I : jI} {L : jL} (w : WD Z I) (v0 : Nat) (v1 : Int32) (kv0 : jk Z v0 12) (uK : Nat) (huK : jr Z v0 63 = some uK) (uC : Nat) (huC : jr Z v0 64 = some uC) {Q : Int32 → jI → jL → Prop} (hQ : ∀ (r : Int32) (I' : jI) (L' : jL), WD Z I' → FR Ws_X12_keep Z I Z I' → KP12 v0 uK uC v1 r.toInt I I' → Q r I' L') : f_X12_keep v0 v1 Z I L Q := by
  obtain ⟨x, ex, kK, lK⟩ := sh_f w.1 kv0 (j := 63) (k := 16) (m := 2) rfl
  cases huK.symm.trans ex
  obtain ⟨y, ey, kC, lC⟩ := sh_f w.1 kv0 (j := 64) (k := 14) (m := 2) rfl
  cases huC.symm.trans ey
  obtain ⟨uP, hP, kP, lP⟩ := sh_f w.1 kv0 (j := 65) (k := 14) (m := 2) rfl
  have nKC : uC ≠ uK := fun e => by have := kK.2; have := kC.2; rw [e] at this; omega
  have nPK : uK ≠ uP := fun e => by have := kK.2; have := kP.2; rw [e] at *; omega
  have nPC : uC ≠ uP := fun e => by rw [← e] at hP; exact absurd (w.2.1.2.2 v0 12 64 v0 12 65 uC kv0 kv0 huC hP rfl rfl).2 (by decide)
  have nK0 : uK ≠ v0 := fun e => by have := kK.2; have := kv0.2; rw [e] at *; omega
  have nC0 : uC ≠ v0 := fun e => by have := kC.2; have := kv0.2; rw [e] at *; omega
  unfold f_X12_keep
  intro I68 e68
  have w68 : WD Z I68 := by rw [e68]; exact WD_putF w 12 22 kv0 (by decide) (by decide) trivial
  have f68 : FR Ws_X12_keep Z I Z I68 := by rw [e68]; exact FR_putF kv0 (by decide) (by decide)
  have k68 : I68 uK = I uK := by rw [e68]; exact jpI_ne nK0
  have c68 : I68 uC = I uC := by rw [e68]; exact jpI_ne nC0
  refine s_X12_in w68 _ _ _ (fun r p => ⟨fun c => ?_, fun c => ?_⟩)
  · have c := (not_congr (i_eq rfl (show (0 : Int32).toInt = 0 from rfl))).mp c
    have z0 : (0 : Int32).toInt = 0 := rfl
    have z1 : (1 : Int32).toInt = 1 := rfl
    have hv : 0 ≤ v1.toInt ∧ v1.toInt ≤ 1 := by omega
    have n1 := i_nat (x := v1) rfl (by omega)
    intro b77 e77
    cases huK.symm.trans e77
    refine ⟨vi_of rfl (by omega) (by omega), ?_⟩
    intro I79 e79 b80 e80
    cases huC.symm.trans e80
    refine ⟨vi_of rfl (by omega) (by omega), ?_⟩
    intro I82 e82 b83 e83
    cases hP.symm.trans e83
    refine ⟨vi_of rfl (by omega) (by omega), ?_⟩
    intro I85 e85 I86 e86
    have w79 : WD Z I79 := by rw [e79]; exact WD_putA w68 12 63 kv0 huK kK rfl rfl (by decide) trivial
    have f79 : FR Ws_X12_keep Z I68 Z I79 := by rw [e79]; exact FR_upA w68.2.1 kv0 huK kK rfl rfl (by decide)
    have w82 : WD Z I82 := by rw [e82]; exact WD_putA w79 12 64 kv0 huC kC rfl rfl (by decide) trivial
    have f82 : FR Ws_X12_keep Z I79 Z I82 := by rw [e82]; exact FR_upA w79.2.1 kv0 huC kC rfl rfl (by decide)
    have w85 : WD Z I85 := by rw [e85]; exact WD_putA w82 12 65 kv0 hP kP rfl rfl (by decide) trivial
    have f85 : FR Ws_X12_keep Z I82 Z I85 := by rw [e85]; exact FR_upA w82.2.1 kv0 hP kP rfl rfl (by decide)
    have w86 : WD Z I86 := by rw [e86]; exact WD_putF w85 12 66 kv0 (by decide) (by decide) trivial
    have f86 : FR Ws_X12_keep Z I85 Z I86 := by rw [e86]; exact FR_putF kv0 (by decide) (by decide)
    have g86 : FR Ws_X12_keep Z I Z I86 := (((f68.trans w.1 w.2.1 f79).trans w.1 w.2.1 f82).trans w.1 w.2.1 f85).trans w.1 w.2.1 f86
    have k86 : I86 uK = I79 uK := by rw [e86, jpI_ne nK0, e85, jpI_ne nPK, e82, jpI_ne (fun e => nKC e.symm)]
    have c86 : I86 uC = I82 uC := by rw [e86, jpI_ne nC0, e85, jpI_ne nPC]
    have s7 : I79 v0 7 = I v0 7 := by rw [e79, jpI_ne (fun e => nK0 e.symm), e68, jpI_o (by decide)]
    have t66 : (I86 v0 66).toInt = 266 * v1.toInt := by rw [e86, jpI_at]; exact i_mul (show (266 : Int32).toInt = 266 from rfl) rfl (by omega) (by omega)
    refine ⟨25, l11_X12_keep_L54 w86 v0 v1 kv0 (fun r I' L' w' f' p' => ?_) 25 0 I86 L w86 FR.rf (by rw [z0]; omega) (by rw [z0]; omega)⟩
    have kk : I' uK = I86 uK := f'.2.2.2 v0 12 63 uK kv0 huK (by rw [kK.2]; rfl) rfl (by decide)
    have cc : I' uC = I86 uC := f'.2.2.2 v0 12 64 uC kv0 huC (by rw [kC.2]; rfl) rfl (by decide)
    refine hQ r I' L' w' (g86.trans w.1 w.2.1 (f'.mono (by decide))) (Or.inl ⟨by omega, hv, ?_, ?_, fun i hi => ⟨?_, ?_⟩⟩)
    · rw [kk, k86, e79, jpI_at]; decide
    · rw [cc, c86, e82, jpI_at]; exact s7
    · rw [kk, k86, e79, jpI_off hi, k68]
    · rw [cc, c86, e82, jpI_off hi, e79, jpI_ne nKC, c68]
  · have c := (i_eq rfl (show (0 : Int32).toInt = 0 from rfl)).mp c
    have z0 : (0 : Int32).toInt = 0 := rfl
    have z1 : (1 : Int32).toInt = 1 := rfl
    exact hQ _ I68 L w68 f68 (Or.inr ⟨rfl, by omega, k68, c68⟩)
theorem HK_keep {Z : jZ} {I0 I1 I2 : jI} {uS v2 uK uC : Nat} {v : Int32} {r1 r2 : Int} (h : HK Z I0 uS v2 uK uC) (f1 : FR Ws_X11_keep Z I0 Z I1) (f2 : FR Ws_X12_keep Z I1 Z I2) (k2 : jk Z v2 12) (hK : jr Z v2 63 = some uK) (kK : jk Z uK 16) (hC : jr Z v2 64 = some uC) (kC : jk Z uC 14) (p1 : KP11 Z uS v r1 I0 I1) (p2 : KP12 v2 uK uC v r2 I1 I2) : HK Z I2 uS v2 uK uC := by
  have e71 := f1.2.2.1 v2 12 7 k2 (by decide) (by decide)
  have e72 := f2.2.2.1 v2 12 7 k2 (by decide) (by decide)
  have eK : I1 uK = I0 uK := f1.2.2.2 v2 12 63 uK k2 hK (by rw [kK.2]; rfl) rfl (by decide)
  have eC : I1 uC = I0 uC := f1.2.2.2 v2 12 64 uC k2 hC (by rw [kC.2]; rfl) rfl (by decide)
  have h0 := h.1
  refine ⟨by rw [e72, e71]; exact h0, fun i b hi hb => ?_⟩
  obtain ⟨kb, hle, hiff⟩ := h.2 i b hi hb
  have e8 : I2 b 8 = I1 b 8 := f2.2.2.1 b 2 8 kb (by decide) (by decide)
  rcases p1 with ⟨-, hv, q1⟩ | ⟨-, hv, q1⟩
  · rcases p2 with ⟨-, -, g1, g2, g3⟩ | ⟨-, hn, -⟩
    · by_cases hi2 : i = v.toNatClampNeg
      · have t := (q1 i b hi hb).1 hi2
        rw [← hi2] at g1 g2
        rw [e8, g2, e72]
        exact ⟨kb, by rw [e71]; omega, fun _ => ⟨g1, rfl⟩, fun _ => t⟩
      · have t := (q1 i b hi hb).2 hi2
        rw [e8, t, (g3 i hi2).1, (g3 i hi2).2, e72, e71, eK, eC]
        exact ⟨kb, hle, hiff⟩
    · exact absurd hv hn
  · rcases p2 with ⟨-, hn, -⟩ | ⟨-, -, g1, g2⟩
    · exact absurd hn hv
    · rw [e8, q1 b kb, g1, g2, e72, e71, eK, eC]
      exact ⟨kb, hle, hiff⟩
/-- again: what it answers -/
def AG11 (Z : jZ) (I : jI) (uS : Nat) (v : Int32) : Prop := (0 ≤ v.toInt ∧ v.toInt ≤ 1) ∧ ∃ b, jr Z uS v.toNatClampNeg = some b ∧ ¬ I b 8 = 0
def AG12 (I : jI) (v2 uK uC : Nat) (v : Int32) : Prop := (0 ≤ v.toInt ∧ v.toInt ≤ 1) ∧ ¬ I uK v.toNatClampNeg = 0 ∧ I uC v.toNatClampNeg = I v2 7
def YN (r : Int) (P : Prop) : Prop := (r = 1 ∧ P) ∨ (r = 0 ∧ ¬ P)
theorem YN_eq {r1 r2 : Int} {P : Prop} (h : YN r1 P) (g : YN r2 P) : r1 = r2 := by
  rcases h with h | h <;> rcases g with g | g
  · rw [h.1, g.1]
  · exact absurd h.2 g.2
  · exact absurd g.2 h.2
  · rw [h.1, g.1]
theorem YN_iff {r : Int} {P P' : Prop} (h : YN r P) (e : P ↔ P') : YN r P' := by
  rcases h with h | h
  · exact Or.inl ⟨h.1, e.mp h.2⟩
  · exact Or.inr ⟨h.1, fun g => h.2 (e.mpr g)⟩
theorem HK_again {W : List (Nat × Nat)} {Z : jZ} {I0 I1 : jI} {uS v2 uK uC : Nat} {v : Int32} {r : Int} (h : HK Z I0 uS v2 uK uC) (f : FR W Z I0 Z I1) (sh : SH Z) (kS : jk Z uS 17) (lS : jlen Z uS = 2) (k2 : jk Z v2 12) (hK : jr Z v2 63 = some uK) (kK : jk Z uK 16) (hC : jr Z v2 64 = some uC) (kC : jk Z uC 14) (n2 : (12, 7) ∉ W) (n3 : (12, 63) ∉ W) (n4 : (12, 64) ∉ W) (p : YN r (AG11 Z I0 uS v)) : YN r (AG12 I1 v2 uK uC v) := by
  refine YN_iff p ?_
  have e7 := f.2.2.1 v2 12 7 k2 (by decide) n2
  have eK : I1 uK = I0 uK := f.2.2.2 v2 12 63 uK k2 hK (by rw [kK.2]; rfl) rfl n3
  have eC : I1 uC = I0 uC := f.2.2.2 v2 12 64 uC k2 hC (by rw [kC.2]; rfl) rfl n4
  unfold AG11 AG12
  rw [e7, eK, eC]
  refine and_congr_right (fun hv => ?_)
  have n1 := i_nat (x := v) rfl hv.1
  obtain ⟨b, hb, kb⟩ := sh.2.2.1 uS kS v.toNatClampNeg (by rw [lS]; omega)
  have g := (h.2 v.toNatClampNeg b (by omega) hb).2.2
  constructor
  · rintro ⟨b', hb', hn⟩
    cases hb.symm.trans hb'
    exact g.mp hn
  · exact fun q => ⟨b, hb, g.mpr q⟩
theorem s9_X11_again {Z : jZ} {I : jI} {L : jL} (w : WD Z I) (v0 : Nat) (v1 : Int32) (kv0 : jk Z v0 11) (uS : Nat) (huS : jr Z v0 8 = some uS) {Q : Int32 → jI → jL → Prop} (hQ : ∀ (r : Int32) (I' : jI) (L' : jL), WD Z I' → FR Ws_X11_again Z I Z I' → YN r.toInt (AG11 Z I uS v1) → Q r I' L') : f_X11_again v0 v1 Z I L Q := by
  obtain ⟨x, ex, kS, lS⟩ := sh_f w.1 kv0 (j := 8) (k := 17) (m := 2) rfl
  cases huS.symm.trans ex
  obtain ⟨uF, huF, kF⟩ := sh_o w.1 kv0 (j := 2) (k := 8) rfl
  obtain ⟨uE, hE, kE, lE⟩ := sh_f w.1 kv0 (j := 5) (k := 14) (m := 8) rfl
  have bad : ¬ (0 ≤ v1.toInt ∧ v1.toInt ≤ 1) → Q (0 : Int32) I L := fun h => hQ _ I L w FR.rf (Or.inr ⟨rfl, fun g => h g.1⟩)
  unfold f_X11_again
  refine ⟨fun c => bad (by have c := (i_lt (x := v1) (y := 0) rfl (show (0 : Int32).toInt = 0 from rfl)).mp c; omega), fun c => ?_⟩
  have c := (not_congr (i_lt (x := v1) (y := 0) rfl (show (0 : Int32).toInt = 0 from rfl))).mp c
  intro b20 e20
  cases huS.symm.trans e20
  refine ⟨fun c2 => bad (by have c2 := (i_le (x := 2) (y := v1) (show (2 : Int32).toInt = 2 from rfl) rfl).mp c2; omega), fun c2 => ?_⟩
  have c2 := (not_congr (i_le (x := 2) (y := v1) (show (2 : Int32).toInt = 2 from rfl) rfl)).mp c2
  have n1 := i_nat (x := v1) rfl (by omega)
  intro b22 e22
  cases huS.symm.trans e22
  refine ⟨vi_of rfl (by omega) (by omega), ?_⟩
  intro b24 e24
  obtain ⟨y, ey, ky⟩ := w.1.2.2.1 uS kS v1.toNatClampNeg (by rw [lS]; omega)
  cases e24.symm.trans ey
  refine ⟨fun c8 => ?_, fun c8 => hQ _ I L w FR.rf (Or.inr ⟨rfl, fun g => ?_⟩)⟩
  · intro b26 e26
    cases huS.symm.trans e26
    refine ⟨vi_of rfl (by omega) (by omega), ?_⟩
    intro b28 e28
    cases e24.symm.trans e28
    intro b29 e29
    cases huF.symm.trans e29
    refine s_X2_getStairs w b24 uF ky kF (fun I1 L1 w1 f1 => ?_)
    intro b36 e36 b37 e37
    cases hE.symm.trans e37
    refine ⟨by decide, ?_⟩
    intro I39 e39
    have w39 : WD Z I39 := by rw [e39]; exact WD_cpy w1 11 5 kv0 hE kE rfl rfl (by decide) (fun _ _ _ => trivial)
    have f39 : FR [(11, 5)] Z I1 Z I39 := by rw [e39]; exact FR_upA w1.2.1 kv0 hE kE rfl rfl List.mem_cons_self
    have g39 : FR Ws_X11_again Z I Z I39 := (f1.mono (by decide)).trans w.1 w.2.1 (f39.mono (by decide))
    have z0 : (0 : Int32).toInt = 0 := rfl
    exact ⟨7, l11_X11_again_L59 w v0 v1 kv0 b24 ky (fun I' L' w' f' => hQ _ I' L' w' f' (Or.inl ⟨rfl, by omega, b24, e24, c8⟩)) 7 0 I39 L1 w39 g39 (by rw [z0]; omega) (by rw [z0]; omega)⟩
  · obtain ⟨-, b', hb', hn⟩ := g
    cases e24.symm.trans hb'
    exact hn c8
theorem s9_X12_again {Z : jZ} {I : jI} {L : jL} (w : WD Z I) (v0 : Nat) (v1 : Int32) (kv0 : jk Z v0 12) (uK : Nat) (huK : jr Z v0 63 = some uK) (uC : Nat) (huC : jr Z v0 64 = some uC) {Q : Int32 → jI → jL → Prop} (hQ : ∀ (r : Int32) (I' : jI) (L' : jL), WD Z I' → FR Ws_X12_again Z I Z I' → YN r.toInt (AG12 I v0 uK uC v1) → Q r I' L') : f_X12_again v0 v1 Z I L Q := by
  obtain ⟨x, ex, kK, lK⟩ := sh_f w.1 kv0 (j := 63) (k := 16) (m := 2) rfl
  cases huK.symm.trans ex
  obtain ⟨y, ey, kC, lC⟩ := sh_f w.1 kv0 (j := 64) (k := 14) (m := 2) rfl
  cases huC.symm.trans ey
  have nK0 : uK ≠ v0 := fun e => by have := kK.2; have := kv0.2; rw [e] at *; omega
  have nC0 : uC ≠ v0 := fun e => by have := kC.2; have := kv0.2; rw [e] at *; omega
  unfold f_X12_again
  intro I1 e1
  have w1 : WD Z I1 := by rw [e1]; exact WD_putF w 12 22 kv0 (by decide) (by decide) trivial
  have f1 : FR Ws_X12_again Z I Z I1 := by rw [e1]; exact FR_putF kv0 (by decide) (by decide)
  have k1 : I1 uK = I uK := by rw [e1]; exact jpI_ne nK0
  have c1 : I1 uC = I uC := by rw [e1]; exact jpI_ne nC0
  have s1 : I1 v0 7 = I v0 7 := by rw [e1, jpI_o (by decide)]
  have z0 : (0 : Int32).toInt = 0 := rfl
  have z1 : (1 : Int32).toInt = 1 := rfl
  refine s_X12_in w1 _ _ _ (fun r p => ⟨fun c => ?_, fun c => ?_⟩)
  · have c := (i_eq rfl (show (0 : Int32).toInt = 0 from rfl)).mp c
    exact hQ _ I1 L w1 f1 (Or.inr ⟨rfl, fun g => by have := g.1; omega⟩)
  have c := (not_congr (i_eq rfl (show (0 : Int32).toInt = 0 from rfl))).mp c
  have hv : 0 ≤ v1.toInt ∧ v1.toInt ≤ 1 := by omega
  have n1 := i_nat (x := v1) rfl (by omega)
  intro b95 e95
  cases huK.symm.trans e95
  refine ⟨vi_of rfl (by omega) (by omega), fun c8 => ?_, fun c8 => ?_⟩
  · exact hQ _ I1 L w1 f1 (Or.inr ⟨rfl, fun g => g.2.1 (by rw [← k1]; exact c8)⟩)
  intro b98 e98
  cases huC.symm.trans e98
  refine ⟨vi_of rfl (by omega) (by omega), fun c9 => ?_, fun c9 => ?_⟩
  · intro I2 e2
    have w2 : WD Z I2 := by rw [e2]; exact WD_putF w1 12 66 kv0 (by decide) (by decide) trivial
    have f2 : FR Ws_X12_again Z I Z I2 := f1.trans w.1 w.2.1 (by rw [e2]; exact FR_putF kv0 (by decide) (by decide))
    have t66 : (I2 v0 66).toInt = 266 * v1.toInt := by rw [e2, jpI_at]; exact i_mul (show (266 : Int32).toInt = 266 from rfl) rfl (by omega) (by omega)
    exact ⟨25, l11_X12_again_L49 w v0 v1 kv0 (fun I' L' w' f' => hQ _ I' L' w' f' (Or.inl ⟨rfl, hv, by rw [← k1]; exact c8, by rw [← c1, ← s1]; exact c9⟩)) 25 0 I2 L w2 f2 (by rw [z0]; omega) (by rw [z0]; omega)⟩
  · exact hQ _ I1 L w1 f1 (Or.inr ⟨rfl, fun g => c9 (by rw [c1, s1]; exact g.2.2)⟩)
