set_option maxHeartbeats 4000000 in
set_option maxRecDepth 100000 in
theorem l_J7_fill_53178_L5 {Z : jZ} {I0 : jI} {Q : jI → jL → Prop} (w0 : WD Z I0) (v0 : Nat) (v1 : Int32) (kv0 : jk Z v0 14) (o0_ c0_ j0_ : Nat) (ho0 : jk Z o0_ c0_) (hr0 : jr Z o0_ j0_ = some v0) (h70 : c0_ ≠ 7) (hs0 : jsr c0_ j0_ = false) (p0 : jlen Z v0 ≤ 1000000) (p1 : ∀ i, okA c0_ j0_ i v1) (v3 : Int32) (hQ : ∀  (I' : jI) (L' : jL), WD Z I' → FR ((c0_, j0_) :: []) Z I0 Z I' → Q I' L') : ∀ (n : Nat) (v2 : Int32) (I : jI) (L : jL), WD Z I → FR ((c0_, j0_) :: []) Z I0 Z I →  (0 ≤ v2.toInt ∧ v3.toInt = (jlen Z v0 : Int) ∧ v2.toInt ≤ v3.toInt) → (jlen Z v0 : Int) - v2.toInt < (n : Int) → f_J7_fill_53178_L5  Z Q n v0 v1 v2 v3 I L := by
  intro n
  induction n with
  | zero =>
    intro v2 I L w_I q_I  li  me
    exfalso
    omega
  | succ n ih =>
    intro v2 I L w_I q_I  li  me
    unfold f_J7_fill_53178_L5
    have rv2 := i_rng v2
    refine ⟨fun c1 => ?_, fun c1 => ?_⟩
    · skip
      first | (have t2 : v3.toInt ≤ v2.toInt := (i_le rfl rfl).mp c1) | (have t2 : v3.toInt ≤ v2.toInt := (i_le rfl rfl).mp c1) | skip
      exact hQ  I L w_I q_I 
    · skip
      first | (have t3 : ¬ (v3.toInt ≤ v2.toInt) := (not_congr (i_le rfl rfl)).mp c1) | (have t3 : ¬ (v3.toInt ≤ v2.toInt) := (not_congr (i_le rfl rfl)).mp c1) | skip
      have o4 : vp_in v2 (jlen Z v0) := vi_of rfl (by omega) (by omega)
      refine ⟨o4, ?_⟩
      intro I5 eI5
      have w_I5 : WD Z I5 := by rw [eI5]; exact WD_putA w_I c0_ j0_ ho0 hr0 kv0 rfl hs0 h70 (p1 _)
      have f_I5 : FR [(c0_, j0_)] Z I Z I5 := by rw [eI5]; exact FR_upA w_I.2.1 ho0 hr0 kv0 rfl hs0 List.mem_cons_self
      have q_I5 : FR ((c0_, j0_) :: []) Z I0 Z I5 := q_I.trans w_I.1 w_I.2.1 (f_I5.mono (by simp))
      intro x6 ex6
      have rx6 := i_rng x6
      first | (have tx6 : x6.toInt = v2.toInt + (1) := by (rw [ex6]; exact (i_add rfl (show (1 : Int32).toInt = 1 from rfl) (by omega) (by omega)))) | skip
      exact ih x6 I5 L w_I5 q_I5  (by omega)  (by omega)
set_option maxHeartbeats 4000000 in
set_option maxRecDepth 100000 in
theorem s_J7_fill_53178 {Z : jZ} {I : jI} {L : jL} (w_I : WD Z I) (v0 : Nat) (v1 : Int32) (kv0 : jk Z v0 14) (o0_ c0_ j0_ : Nat) (ho0 : jk Z o0_ c0_) (hr0 : jr Z o0_ j0_ = some v0) (h70 : c0_ ≠ 7) (hs0 : jsr c0_ j0_ = false) (p0 : jlen Z v0 ≤ 1000000) (p1 : ∀ i, okA c0_ j0_ i v1) {Q : jI → jL → Prop} (hQ : ∀  (I' : jI) (L' : jL), WD Z I' → FR ((c0_, j0_) :: []) Z I Z I' → Q I' L') : f_J7_fill_53178 v0 v1 Z I L Q := by
  unfold f_J7_fill_53178
  have q_I : FR ((c0_, j0_) :: []) Z I Z I := FR.rf
  have rv1 := i_rng v1
  intro x7 ex7
  have rx7 := i_rng x7
  first | (have tx7 : x7.toInt = ((jlen Z v0 : Nat) : Int) := by (rw [ex7]; exact (i_nI (by omega)))) | (have tx7 : x7.toInt = (nI (jlen Z v0)).toInt := by rw [ex7])
  have t8 : (0 : Int32).toInt = 0 := rfl
  exact ⟨((jlen Z v0 : Int) - (0 : Int32).toInt).toNat + 1, l_J7_fill_53178_L5 w_I v0 v1 kv0 o0_ c0_ j0_ ho0 hr0 h70 hs0 p0 p1 x7  hQ  _ (0 : Int32) I L w_I q_I  (by omega)  (by omega)⟩
def Ws_J7_fill_d0a16 : List (Nat × Nat) := []
set_option maxHeartbeats 4000000 in
set_option maxRecDepth 100000 in
theorem l_J7_fill_d0a16_L6 {Z : jZ} {I0 : jI} {Q : jI → jL → Prop} (w0 : WD Z I0) (v0 : Nat) (v1 : Int64) (kv0 : jk Z v0 15) (p0 : jlen Z v0 ≤ 1000000) (v4 : Int32) (hQ : ∀  (I' : jI) (L' : jL), WD Z I' → FR Ws_J7_fill_d0a16 Z I0 Z I' → Q I' L') : ∀ (n : Nat) (v3 : Int32) (I : jI) (L : jL), WD Z I → FR Ws_J7_fill_d0a16 Z I0 Z I →  (0 ≤ v3.toInt ∧ v4.toInt = (jlen Z v0 : Int) ∧ v3.toInt ≤ v4.toInt) → (jlen Z v0 : Int) - v3.toInt < (n : Int) → f_J7_fill_d0a16_L6  Z Q n v0 v1 v3 v4 I L := by
  intro n
  induction n with
  | zero =>
    intro v3 I L w_I q_I  li  me
    exfalso
    omega
  | succ n ih =>
    intro v3 I L w_I q_I  li  me
    unfold f_J7_fill_d0a16_L6
    have rv3 := i_rng v3
    refine ⟨fun c1 => ?_, fun c1 => ?_⟩
    · skip
      first | (have t2 : v4.toInt ≤ v3.toInt := (i_le rfl rfl).mp c1) | (have t2 : v4.toInt ≤ v3.toInt := (i_le rfl rfl).mp c1) | skip
      exact hQ  I L w_I q_I 
    · skip
      first | (have t3 : ¬ (v4.toInt ≤ v3.toInt) := (not_congr (i_le rfl rfl)).mp c1) | (have t3 : ¬ (v4.toInt ≤ v3.toInt) := (not_congr (i_le rfl rfl)).mp c1) | skip
      have o4 : vp_in v3 (jlen Z v0) := vi_of rfl (by omega) (by omega)
      refine ⟨o4, ?_⟩
      intro L5 eL5
      intro x6 ex6
      have rx6 := i_rng x6
      first | (have tx6 : x6.toInt = v3.toInt + (1) := by (rw [ex6]; exact (i_add rfl (show (1 : Int32).toInt = 1 from rfl) (by omega) (by omega)))) | skip
      exact ih x6 I L5 w_I q_I  (by omega)  (by omega)
set_option maxHeartbeats 4000000 in
set_option maxRecDepth 100000 in
theorem s_J7_fill_d0a16 {Z : jZ} {I : jI} {L : jL} (w_I : WD Z I) (v0 : Nat) (v1 : Int64) (kv0 : jk Z v0 15) (p0 : jlen Z v0 ≤ 1000000) {Q : jI → jL → Prop} (hQ : ∀  (I' : jI) (L' : jL), WD Z I' → FR Ws_J7_fill_d0a16 Z I Z I' → Q I' L') : f_J7_fill_d0a16 v0 v1 Z I L Q := by
  unfold f_J7_fill_d0a16
  have q_I : FR Ws_J7_fill_d0a16 Z I Z I := FR.rf
  intro x7 ex7
  have rx7 := i_rng x7
  first | (have tx7 : x7.toInt = ((jlen Z v0 : Nat) : Int) := by (rw [ex7]; exact (i_nI (by omega)))) | (have tx7 : x7.toInt = (nI (jlen Z v0)).toInt := by rw [ex7])
  have t8 : (0 : Int32).toInt = 0 := rfl
  exact ⟨((jlen Z v0 : Int) - (0 : Int32).toInt).toNat + 1, l_J7_fill_d0a16_L6 w_I v0 v1 kv0 p0 x7  hQ  _ (0 : Int32) I L w_I q_I  (by omega)  (by omega)⟩
set_option maxHeartbeats 4000000 in
set_option maxRecDepth 100000 in
theorem s_X10_signAt {Z : jZ} {I : jI} {L : jL} (w_I : WD Z I) (v0 : Nat) (v1 : Int32) (kv0 : jk Z v0 10) {Q : Int32 → jI → jL → Prop} (hQ : ∀ (r : Int32), (-1 ≤ r.toInt ∧ r.toInt ≤ 255) → Q r I L) : f_X10_signAt v0 v1 Z I L Q := by
  unfold f_X10_signAt
  have rv1 := i_rng v1
  refine ⟨fun c1 => ?_, fun c1 => ?_⟩
  · skip
    first | (have t2 : v1.toInt < (0) := (i_lt rfl (show (0 : Int32).toInt = 0 from rfl)).mp c1) | (have t2 : v1.toInt < (0 : Int32).toInt := (i_lt rfl rfl).mp c1) | skip
    have t3 : (-1 : Int32).toInt = -1 := rfl
    exact hQ (-1 : Int32) (by omega)
  · skip
    first | (have t4 : ¬ (v1.toInt < (0)) := (not_congr (i_lt rfl (show (0 : Int32).toInt = 0 from rfl))).mp c1) | (have t4 : ¬ (v1.toInt < (0 : Int32).toInt) := (not_congr (i_lt rfl rfl)).mp c1) | skip
    have t6 : 0 ≤ (I v0 1).toInt ∧ (I v0 1).toInt ≤ 80 := w_I.fld 10 1 kv0 (by decide)
    refine ⟨fun c7 => ?_, fun c7 => ?_⟩
    · skip
      first | (have t8 : (I v0 1).toInt ≤ v1.toInt := (i_le rfl rfl).mp c7) | (have t8 : (I v0 1).toInt ≤ v1.toInt := (i_le rfl rfl).mp c7) | skip
      have t9 : (-1 : Int32).toInt = -1 := rfl
      exact hQ (-1 : Int32) (by omega)
    · skip
      first | (have t10 : ¬ ((I v0 1).toInt ≤ v1.toInt) := (not_congr (i_le rfl rfl)).mp c7) | (have t10 : ¬ ((I v0 1).toInt ≤ v1.toInt) := (not_congr (i_le rfl rfl)).mp c7) | skip
      refine ⟨fun c11 => ?_, fun c11 => ?_⟩
      · skip
        first | (have t12 : (80) ≤ v1.toInt := (i_le (show (80 : Int32).toInt = 80 from rfl) rfl).mp c11) | (have t12 : (80 : Int32).toInt ≤ v1.toInt := (i_le rfl rfl).mp c11) | skip
        have t13 : (-1 : Int32).toInt = -1 := rfl
        exact hQ (-1 : Int32) (by omega)
      · skip
        first | (have t14 : ¬ ((80) ≤ v1.toInt) := (not_congr (i_le (show (80 : Int32).toInt = 80 from rfl) rfl)).mp c11) | (have t14 : ¬ ((80 : Int32).toInt ≤ v1.toInt) := (not_congr (i_le rfl rfl)).mp c11) | skip
        intro b15 eb15
        obtain ⟨x16, ex16, kb15, lb15⟩ := sh_f w_I.1 kv0 (j := 0) (k := 13) (m := 80) rfl
        cases eb15.symm.trans ex16
        have o17 : vp_in v1 80 := vi_of rfl (by omega) (by omega)
        refine ⟨o17, ?_⟩
        have t18 : 0 ≤ ((I b15 v1.toNatClampNeg) &&& (255 : Int32)).toInt ∧ ((I b15 v1.toNatClampNeg) &&& (255 : Int32)).toInt < 2 ^ 8 := i_and (n := 8) (by decide)
        exact hQ ((I b15 v1.toNatClampNeg) &&& (255 : Int32)) (by omega)
set_option maxHeartbeats 4000000 in
set_option maxRecDepth 100000 in
theorem s_X10_isDigit {Z : jZ} {I : jI} {L : jL} (w_I : WD Z I) (v0 : Int32) {Q : Int32 → jI → jL → Prop} (hQ : ∀ (r : Int32), (r.toInt = 0 ∨ (48 ≤ v0.toInt ∧ v0.toInt ≤ 57)) → Q r I L) : f_X10_isDigit v0 Z I L Q := by
  unfold f_X10_isDigit
  have rv0 := i_rng v0
  refine ⟨fun c1 => ?_, fun c1 => ?_⟩
  · skip
    first | (have t2 : v0.toInt < (48) := (i_lt rfl (show (48 : Int32).toInt = 48 from rfl)).mp c1) | (have t2 : v0.toInt < (48 : Int32).toInt := (i_lt rfl rfl).mp c1) | skip
    have t3 : (0 : Int32).toInt = 0 := rfl
    exact hQ (0 : Int32) (by omega)
  · skip
    first | (have t4 : ¬ (v0.toInt < (48)) := (not_congr (i_lt rfl (show (48 : Int32).toInt = 48 from rfl))).mp c1) | (have t4 : ¬ (v0.toInt < (48 : Int32).toInt) := (not_congr (i_lt rfl rfl)).mp c1) | skip
    refine ⟨fun c5 => ?_, fun c5 => ?_⟩
    · skip
      first | (have t6 : (57) < v0.toInt := (i_lt (show (57 : Int32).toInt = 57 from rfl) rfl).mp c5) | (have t6 : (57 : Int32).toInt < v0.toInt := (i_lt rfl rfl).mp c5) | skip
      have t7 : (0 : Int32).toInt = 0 := rfl
      exact hQ (0 : Int32) (by omega)
    · skip
      first | (have t8 : ¬ ((57) < v0.toInt) := (not_congr (i_lt (show (57 : Int32).toInt = 57 from rfl) rfl)).mp c5) | (have t8 : ¬ ((57 : Int32).toInt < v0.toInt) := (not_congr (i_lt rfl rfl)).mp c5) | skip
      have t9 : (1 : Int32).toInt = 1 := rfl
      exact hQ (1 : Int32) (by omega)
set_option maxHeartbeats 4000000 in
set_option maxRecDepth 100000 in
theorem s_J6_bitCount_0f7a4 {Z : jZ} {I : jI} {L : jL} (w_I : WD Z I) (v0 : Int32) {Q : Int32 → jI → jL → Prop} (hQ : ∀ (r : Int32), Q r I L) : f_J6_bitCount_0f7a4 v0 Z I L Q := by
  unfold f_J6_bitCount_0f7a4
  have rv0 := i_rng v0
  intro x1 ex1
  have rx1 := i_rng x1
  first | (have tx1 : x1.toInt = (v0.toInt - (((v0.toUInt32 >>> ((1 : Int32).toUInt32 &&& Int32.toUInt32 31)).toInt32) &&& (1431655765 : Int32)).toInt) := by (rw [ex1]; exact (i_sub rfl rfl (by omega) (by omega)))) | (have tx1 : x1.toInt = (v0 - (((v0.toUInt32 >>> ((1 : Int32).toUInt32 &&& Int32.toUInt32 31)).toInt32) &&& (1431655765 : Int32))).toInt := by rw [ex1])
  intro x2 ex2
  have rx2 := i_rng x2
  first | (have tx2 : x2.toInt = ((x1 &&& (858993459 : Int32)).toInt + (((x1.toUInt32 >>> ((2 : Int32).toUInt32 &&& Int32.toUInt32 31)).toInt32) &&& (858993459 : Int32)).toInt) := by (rw [ex2]; exact (i_add rfl rfl (by omega) (by omega)))) | (have tx2 : x2.toInt = ((x1 &&& (858993459 : Int32)) + (((x1.toUInt32 >>> ((2 : Int32).toUInt32 &&& Int32.toUInt32 31)).toInt32) &&& (858993459 : Int32))).toInt := by rw [ex2])
  intro x3 ex3
  have rx3 := i_rng x3
  first | (have tx3 : x3.toInt = ((x2 + ((x2.toUInt32 >>> ((4 : Int32).toUInt32 &&& Int32.toUInt32 31)).toInt32)) &&& (252645135 : Int32)).toInt := by (rw [ex3]; exact rfl)) | (have tx3 : x3.toInt = ((x2 + ((x2.toUInt32 >>> ((4 : Int32).toUInt32 &&& Int32.toUInt32 31)).toInt32)) &&& (252645135 : Int32)).toInt := by rw [ex3])
  intro x4 ex4
  have rx4 := i_rng x4
  first | (have tx4 : x4.toInt = (x3.toInt + ((x3.toUInt32 >>> ((8 : Int32).toUInt32 &&& Int32.toUInt32 31)).toInt32).toInt) := by (rw [ex4]; exact (i_add rfl rfl (by omega) (by omega)))) | (have tx4 : x4.toInt = (x3 + ((x3.toUInt32 >>> ((8 : Int32).toUInt32 &&& Int32.toUInt32 31)).toInt32)).toInt := by rw [ex4])
  intro x5 ex5
  have rx5 := i_rng x5
  first | (have tx5 : x5.toInt = (x4.toInt + ((x4.toUInt32 >>> ((16 : Int32).toUInt32 &&& Int32.toUInt32 31)).toInt32).toInt) := by (rw [ex5]; exact (i_add rfl rfl (by omega) (by omega)))) | (have tx5 : x5.toInt = (x4 + ((x4.toUInt32 >>> ((16 : Int32).toUInt32 &&& Int32.toUInt32 31)).toInt32)).toInt := by rw [ex5])
  have t6 : 0 ≤ (x5 &&& (63 : Int32)).toInt ∧ (x5 &&& (63 : Int32)).toInt < 2 ^ 6 := i_and (n := 6) (by decide)
  exact hQ (x5 &&& (63 : Int32)) 
def Ws_X10_append : List (Nat × Nat) := [(10, 0), (10, 1)]
set_option maxHeartbeats 4000000 in
set_option maxRecDepth 100000 in
theorem l_X10_append_L16 {Z : jZ} {I0 : jI} {Q : Int32 → jI → jL → Prop} (w0 : WD Z I0) (v0 : Nat) (v1 : Int32) (kv0 : jk Z v0 10) (hQ : ∀ (r : Int32) (I' : jI) (L' : jL), WD Z I' → FR Ws_X10_append Z I0 Z I' → Q r I' L') : ∀ (n : Nat) (v2 : Int32) (I : jI) (L : jL), WD Z I → FR Ws_X10_append Z I0 Z I →  (-8 ≤ v2.toInt ∧ v2.toInt ≤ 24 ∧ v2.toInt % 8 = 0 ∧ (I v0 1).toInt + (v2.toInt + 8) / 8 ≤ 80) → v2.toInt + 8 < (n : Int) → f_X10_append_L16  Z Q n v0 v1 v2 I L := by
  intro n
  induction n with
  | zero =>
    intro v2 I L w_I q_I  li  me
    exfalso
    omega
  | succ n ih =>
    intro v2 I L w_I q_I  li  me
    unfold f_X10_append_L16
    have rv2 := i_rng v2
    refine ⟨fun c1 => ?_, fun c1 => ?_⟩
    · skip
      first | (have t2 : v2.toInt < (0) := (i_lt rfl (show (0 : Int32).toInt = 0 from rfl)).mp c1) | (have t2 : v2.toInt < (0 : Int32).toInt := (i_lt rfl rfl).mp c1) | skip
      have t3 : (1 : Int32).toInt = 1 := rfl
      exact hQ (1 : Int32) I L w_I q_I 
    · skip
      first | (have t4 : ¬ (v2.toInt < (0)) := (not_congr (i_lt rfl (show (0 : Int32).toInt = 0 from rfl))).mp c1) | (have t4 : ¬ (v2.toInt < (0 : Int32).toInt) := (not_congr (i_lt rfl rfl)).mp c1) | skip
      intro b5 eb5
      obtain ⟨x6, ex6, kb5, lb5⟩ := sh_f w_I.1 kv0 (j := 0) (k := 13) (m := 80) rfl
      cases eb5.symm.trans ex6
      have t8 : 0 ≤ (I v0 1).toInt ∧ (I v0 1).toInt ≤ 80 := w_I.fld 10 1 kv0 (by decide)
      have o9 : vp_in (I v0 1) 80 := vi_of rfl (by omega) (by omega)
      refine ⟨o9, ?_⟩
      intro I10 eI10
      have w_I10 : WD Z I10 := by rw [eI10]; exact WD_putA w_I 10 0 kv0 eb5 kb5 rfl rfl (by decide) trivial
      have f_I10 : FR [(10, 0)] Z I Z I10 := by rw [eI10]; exact FR_upA w_I.2.1 kv0 eb5 kb5 rfl rfl List.mem_cons_self
      have q_I10 : FR Ws_X10_append Z I0 Z I10 := q_I.trans w_I.1 w_I.2.1 (f_I10.mono (by decide))
      have u11 : (I10 v0 1).toInt = (I v0 1).toInt := by rw [f_I10.2.2.1 v0 10 1 kv0 (by decide) (by decide)]
      have t13 : 0 ≤ (I10 v0 1).toInt ∧ (I10 v0 1).toInt ≤ 80 := w_I10.fld 10 1 kv0 (by decide)
      intro I14 eI14
      try (have t15 : ((I10 v0 1) + (1 : Int32)).toInt = ((I10 v0 1).toInt + (1)) := (i_add rfl (show (1 : Int32).toInt = 1 from rfl) (by omega) (by omega)))
      have w_I14 : WD Z I14 := by rw [eI14]; exact WD_putF w_I10 10 1 kv0 (by decide) (by decide) (by constructor <;> omega)
      have f_I14 : FR [(10, 1)] Z I10 Z I14 := by rw [eI14]; exact FR_putF kv0 (by decide) List.mem_cons_self
      have q_I14 : FR Ws_X10_append Z I0 Z I14 := q_I10.trans w_I10.1 w_I10.2.1 (f_I14.mono (by decide))
      first | (have u16 : (I14 v0 1).toInt = ((I10 v0 1).toInt + (1)) := by (rw [eI14, show jpI I10 v0 1 ((I10 v0 1) + (1 : Int32)) v0 1 = ((I10 v0 1) + (1 : Int32)) from jpI_at]; exact (i_add rfl (show (1 : Int32).toInt = 1 from rfl) (by omega) (by omega)))) | skip
      intro x17 ex17
      have rx17 := i_rng x17
      first | (have tx17 : x17.toInt = v2.toInt + (-8) := by (rw [ex17]; exact (i_add rfl (show (-8 : Int32).toInt = -8 from rfl) (by omega) (by omega)))) | skip
      exact ih x17 I14 L w_I14 q_I14  (by omega)  (by omega)
set_option maxHeartbeats 4000000 in
set_option maxRecDepth 100000 in
theorem s_X10_append {Z : jZ} {I : jI} {L : jL} (w_I : WD Z I) (v0 : Nat) (v1 : Int32) (kv0 : jk Z v0 10) {Q : Int32 → jI → jL → Prop} (hQ : ∀ (r : Int32) (I' : jI) (L' : jL), WD Z I' → FR Ws_X10_append Z I Z I' → Q r I' L') : f_X10_append v0 v1 Z I L Q := by
  unfold f_X10_append
  have q_I : FR Ws_X10_append Z I Z I := FR.rf
  have rv1 := i_rng v1
  have t19 : 0 ≤ (I v0 1).toInt ∧ (I v0 1).toInt ≤ 80 := w_I.fld 10 1 kv0 (by decide)
  refine ⟨fun c20 => ?_, fun c20 => ?_⟩
  · skip
    first | (have t21 : ((I v0 1).toInt + (4)) ≤ (80) := (i_le (i_add rfl (show (4 : Int32).toInt = 4 from rfl) (by omega) (by omega)) (show (80 : Int32).toInt = 80 from rfl)).mp c20) | (have t21 : ((I v0 1) + (4 : Int32)).toInt ≤ (80 : Int32).toInt := (i_le rfl rfl).mp c20) | skip
    have t22 : (24 : Int32).toInt = 24 := rfl
    exact ⟨((24 : Int32).toInt + 8).toNat + 1, l_X10_append_L16 w_I v0 v1 kv0   hQ  _ (24 : Int32) I L w_I q_I  (by omega)  (by omega)⟩
  · skip
    first | (have t23 : ¬ (((I v0 1).toInt + (4)) ≤ (80)) := (not_congr (i_le (i_add rfl (show (4 : Int32).toInt = 4 from rfl) (by omega) (by omega)) (show (80 : Int32).toInt = 80 from rfl))).mp c20) | (have t23 : ¬ (((I v0 1) + (4 : Int32)).toInt ≤ (80 : Int32).toInt) := (not_congr (i_le rfl rfl)).mp c20) | skip
    have t24 : (0 : Int32).toInt = 0 := rfl
    exact hQ (0 : Int32) I L w_I q_I 
def Ws_X10_cut : List (Nat × Nat) := [(10, 1)]
set_option maxHeartbeats 4000000 in
set_option maxRecDepth 100000 in
theorem s_X10_cut {Z : jZ} {I : jI} {L : jL} (w_I : WD Z I) (v0 : Nat) (v1 : Int32) (kv0 : jk Z v0 10) {Q : Int32 → jI → jL → Prop} (hQ : ∀ (r : Int32) (I' : jI) (L' : jL), WD Z I' → FR Ws_X10_cut Z I Z I' → Q r I' L') : f_X10_cut v0 v1 Z I L Q := by
  unfold f_X10_cut
  have q_I : FR Ws_X10_cut Z I Z I := FR.rf
  have rv1 := i_rng v1
  refine ⟨fun c1 => ?_, fun c1 => ?_⟩
  · skip
    first | (have t2 : v1.toInt < (0) := (i_lt rfl (show (0 : Int32).toInt = 0 from rfl)).mp c1) | (have t2 : v1.toInt < (0 : Int32).toInt := (i_lt rfl rfl).mp c1) | skip
    have t3 : (0 : Int32).toInt = 0 := rfl
    exact hQ (0 : Int32) I L w_I q_I 
  · skip
    first | (have t4 : ¬ (v1.toInt < (0)) := (not_congr (i_lt rfl (show (0 : Int32).toInt = 0 from rfl))).mp c1) | (have t4 : ¬ (v1.toInt < (0 : Int32).toInt) := (not_congr (i_lt rfl rfl)).mp c1) | skip
    have t6 : 0 ≤ (I v0 1).toInt ∧ (I v0 1).toInt ≤ 80 := w_I.fld 10 1 kv0 (by decide)
    refine ⟨fun c7 => ?_, fun c7 => ?_⟩
    · skip
      first | (have t8 : v1.toInt ≤ (I v0 1).toInt := (i_le rfl rfl).mp c7) | (have t8 : v1.toInt ≤ (I v0 1).toInt := (i_le rfl rfl).mp c7) | skip
      intro I9 eI9
      have w_I9 : WD Z I9 := by rw [eI9]; exact WD_putF w_I 10 1 kv0 (by decide) (by decide) (by constructor <;> omega)
      have f_I9 : FR [(10, 1)] Z I Z I9 := by rw [eI9]; exact FR_putF kv0 (by decide) List.mem_cons_self
      have q_I9 : FR Ws_X10_cut Z I Z I9 := q_I.trans w_I.1 w_I.2.1 (f_I9.mono (by decide))
      have t10 : (1 : Int32).toInt = 1 := rfl
      exact hQ (1 : Int32) I9 L w_I9 q_I9 
    · skip
      first | (have t11 : ¬ (v1.toInt ≤ (I v0 1).toInt) := (not_congr (i_le rfl rfl)).mp c7) | (have t11 : ¬ (v1.toInt ≤ (I v0 1).toInt) := (not_congr (i_le rfl rfl)).mp c7) | skip
      have t12 : (0 : Int32).toInt = 0 := rfl
      exact hQ (0 : Int32) I L w_I q_I 
def Ws_X10_clear : List (Nat × Nat) := [(10, 1)]
set_option maxHeartbeats 4000000 in
set_option maxRecDepth 100000 in
theorem s_X10_clear {Z : jZ} {I : jI} {L : jL} (w_I : WD Z I) (v0 : Nat) (kv0 : jk Z v0 10) {Q : jI → jL → Prop} (hQ : ∀  (I' : jI) (L' : jL), WD Z I' → FR Ws_X10_clear Z I Z I' → Q I' L') : f_X10_clear v0 Z I L Q := by
  unfold f_X10_clear
  have q_I : FR Ws_X10_clear Z I Z I := FR.rf
  intro I1 eI1
  have t2 : (0 : Int32).toInt = 0 := rfl
  have w_I1 : WD Z I1 := by rw [eI1]; exact WD_putF w_I 10 1 kv0 (by decide) (by decide) (by constructor <;> omega)
  have f_I1 : FR [(10, 1)] Z I Z I1 := by rw [eI1]; exact FR_putF kv0 (by decide) List.mem_cons_self
  have q_I1 : FR Ws_X10_clear Z I Z I1 := q_I.trans w_I.1 w_I.2.1 (f_I1.mono (by decide))
  exact hQ  I1 L w_I1 q_I1 
