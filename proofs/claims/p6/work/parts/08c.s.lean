set_option maxHeartbeats 4000000 in
set_option maxRecDepth 100000 in
theorem l_J7_fill_53178_L5 {Z : jZ} {I0 : jI} {Q : jI → jL → Prop} (w0 : WD Z I0) (v0 : Nat) (v1 : Int32) (kv0 : jk Z v0 14) (o0_ c0_ j0_ : Nat) (ho0 : jk Z o0_ c0_) (hr0 : jr Z o0_ j0_ = some v0) (h70 : c0_ ≠ 7) (hs0 : jsr c0_ j0_ = false) (p0 : jlen Z v0 ≤ 1000000) (p1 : ∀ i, okA c0_ j0_ i v1) (v3 : Int32) (hQ : ∀  (I' : jI) (L' : jL), WD Z I' → FR ((c0_, j0_) :: []) Z I0 Z I' → Q I' L') : ∀ (n : Nat) (v2 : Int32) (I : jI) (L : jL), WD Z I → FR ((c0_, j0_) :: []) Z I0 Z I →   (0 ≤ v2.toInt ∧ v3.toInt = (jlen Z v0 : Int) ∧ v2.toInt ≤ v3.toInt) → (jlen Z v0 : Int) - v2.toInt < (n : Int) → f_J7_fill_53178_L5  Z Q n v0 v1 v2 v3 I L := by
  intro n
  induction n with
  | zero =>
    intro v2 I L w_I q_I   li  me
    exfalso
    omega
  | succ n ih =>
    intro v2 I L w_I q_I   li  me
    unfold f_J7_fill_53178_L5
    have rv2 := i_rng v2
    have rv3 := i_rng v3
    have rv1 := i_rng v1
    refine ⟨fun c1 => ?_, fun c1 => ?_⟩
    · skip
      first | (have t2 : v3.toInt ≤ v2.toInt := (i_le rfl rfl).mp c1) | (have t2 : v3.toInt ≤ v2.toInt := (i_le rfl rfl).mp c1) | skip
      exact hQ  I L w_I q_I 
    · skip
      first | (have t3 : ¬ (v3.toInt ≤ v2.toInt) := (not_congr (i_le rfl rfl)).mp c1) | (have t3 : ¬ (v3.toInt ≤ v2.toInt) := (not_congr (i_le rfl rfl)).mp c1) | skip
      have o4 : vp_in v2 (jlen Z v0) := vi_of rfl (by omega) (by omega)
      refine ⟨o4, ?_⟩
      intro I5 eI5
      have w_I5 : WD Z I5 := by rw [eI5]; exact WD_putA w_I c0_ j0_ ho0 hr0 kv0 rfl hs0 h70 (p1 _)
      have f_I5 : FR [(c0_, j0_)] Z I Z I5 := by rw [eI5]; exact FR_upA w_I.2.1 ho0 hr0 kv0 rfl hs0 List.mem_cons_self
      have q_I5 : FR ((c0_, j0_) :: []) Z I0 Z I5 := q_I.trans w0.1 w0.2.1 (f_I5.mono (by simp))
      intro x6 ex6
      have rx6 := i_rng x6
      first | (have tx6 : x6.toInt = v2.toInt + (1) := by (rw [ex6]; exact (i_add rfl (show (1 : Int32).toInt = 1 from rfl) (by omega) (by omega)))) | skip
      exact ih x6 I5 L w_I5 q_I5   (by omega)  (by omega)
set_option maxHeartbeats 4000000 in
set_option maxRecDepth 100000 in
theorem s_J7_fill_53178 {Z : jZ} {I : jI} {L : jL} (w_I : WD Z I) (v0 : Nat) (v1 : Int32) (kv0 : jk Z v0 14) (o0_ c0_ j0_ : Nat) (ho0 : jk Z o0_ c0_) (hr0 : jr Z o0_ j0_ = some v0) (h70 : c0_ ≠ 7) (hs0 : jsr c0_ j0_ = false) (p0 : jlen Z v0 ≤ 1000000) (p1 : ∀ i, okA c0_ j0_ i v1) {Q : jI → jL → Prop} (hQ : ∀  (I' : jI) (L' : jL), WD Z I' → FR ((c0_, j0_) :: []) Z I Z I' → Q I' L') : f_J7_fill_53178 v0 v1 Z I L Q := by
  unfold f_J7_fill_53178
  have q_I : FR ((c0_, j0_) :: []) Z I Z I := FR.rf
  have rv1 := i_rng v1
  intro x7 ex7
  have rx7 := i_rng x7
  first | (have tx7 : x7.toInt = ((jlen Z v0 : Nat) : Int) := by (rw [ex7]; exact (i_nI (by omega)))) | (have tx7 : x7.toInt = (nI (jlen Z v0)).toInt := by rw [ex7])
  have t8 : (0 : Int32).toInt = 0 := rfl
  exact ⟨((jlen Z v0 : Int) - (0 : Int32).toInt).toNat + 1, l_J7_fill_53178_L5 w_I v0 v1 kv0 o0_ c0_ j0_ ho0 hr0 h70 hs0 p0 p1 x7  hQ   _ (0 : Int32) I L w_I q_I   (by omega)  (by omega)⟩
set_option maxHeartbeats 4000000 in
set_option maxRecDepth 100000 in
theorem s_X11_bitOf {Z : jZ} {I : jI} {L : jL} (w_I : WD Z I) (v0 : Int32) {Q : Int64 → jI → jL → Prop} (hQ : ∀ (r : Int64), Q r I L) : f_X11_bitOf v0 Z I L Q := by
  unfold f_X11_bitOf
  have rv0 := i_rng v0
  exact hQ ((1 : Int64) <<< (((23 : Int32) - v0).toInt64 &&& 63)) 
set_option maxHeartbeats 4000000 in
set_option maxRecDepth 100000 in
theorem s_X11_costIn {Z : jZ} {I : jI} {L : jL} (w_I : WD Z I) (v0 : Int64) {Q : Int32 → jI → jL → Prop} (hQ : ∀ (r : Int32), Q r I L) : f_X11_costIn v0 Z I L Q := by
  unfold f_X11_costIn
  exact hQ (((v0.toUInt64 >>> ((41 : Int32).toInt64.toUInt64 &&& Int64.toUInt64 63)).toInt64).toInt32) 
set_option maxHeartbeats 4000000 in
set_option maxRecDepth 100000 in
theorem s_X11_effortIn {Z : jZ} {I : jI} {L : jL} (w_I : WD Z I) (v0 : Int64) {Q : Int32 → jI → jL → Prop} (hQ : ∀ (r : Int32), (r.toInt = (effV v0).toInt ∧ 0 ≤ r.toInt ∧ r.toInt ≤ 4095) → Q r I L) : f_X11_effortIn v0 Z I L Q := by
  unfold f_X11_effortIn
  have t1 : 0 ≤ ((((v0.toUInt64 >>> ((29 : Int32).toInt64.toUInt64 &&& Int64.toUInt64 63)).toInt64).toInt32) &&& (4095 : Int32)).toInt ∧ ((((v0.toUInt64 >>> ((29 : Int32).toInt64.toUInt64 &&& Int64.toUInt64 63)).toInt64).toInt32) &&& (4095 : Int32)).toInt < 2 ^ 12 := i_and (n := 12) (by decide)
  exact hQ ((((v0.toUInt64 >>> ((29 : Int32).toInt64.toUInt64 &&& Int64.toUInt64 63)).toInt64).toInt32) &&& (4095 : Int32)) (by refine ⟨rfl, ?_⟩; omega)
def Ws_J7_fill_d0a16 : List (Nat × Nat) := []
set_option maxHeartbeats 4000000 in
set_option maxRecDepth 100000 in
theorem l_J7_fill_d0a16_L6 {Z : jZ} {I0 : jI} {Q : jI → jL → Prop} (w0 : WD Z I0) (v0 : Nat) (v1 : Int64) (kv0 : jk Z v0 15) (p0 : jlen Z v0 ≤ 1000000) (v4 : Int32) (hQ : ∀  (I' : jI) (L' : jL), WD Z I' → FR Ws_J7_fill_d0a16 Z I0 Z I' → Q I' L') : ∀ (n : Nat) (v3 : Int32) (I : jI) (L : jL), WD Z I → FR Ws_J7_fill_d0a16 Z I0 Z I →   (0 ≤ v3.toInt ∧ v4.toInt = (jlen Z v0 : Int) ∧ v3.toInt ≤ v4.toInt) → (jlen Z v0 : Int) - v3.toInt < (n : Int) → f_J7_fill_d0a16_L6  Z Q n v0 v1 v3 v4 I L := by
  intro n
  induction n with
  | zero =>
    intro v3 I L w_I q_I   li  me
    exfalso
    omega
  | succ n ih =>
    intro v3 I L w_I q_I   li  me
    unfold f_J7_fill_d0a16_L6
    have rv3 := i_rng v3
    have rv4 := i_rng v4
    refine ⟨fun c1 => ?_, fun c1 => ?_⟩
    · skip
      first | (have t2 : v4.toInt ≤ v3.toInt := (i_le rfl rfl).mp c1) | (have t2 : v4.toInt ≤ v3.toInt := (i_le rfl rfl).mp c1) | skip
      exact hQ  I L w_I q_I 
    · skip
      first | (have t3 : ¬ (v4.toInt ≤ v3.toInt) := (not_congr (i_le rfl rfl)).mp c1) | (have t3 : ¬ (v4.toInt ≤ v3.toInt) := (not_congr (i_le rfl rfl)).mp c1) | skip
      have o4 : vp_in v3 (jlen Z v0) := vi_of rfl (by omega) (by omega)
      refine ⟨o4, ?_⟩
      intro L5 eL5
      intro x6 ex6
      have rx6 := i_rng x6
      first | (have tx6 : x6.toInt = v3.toInt + (1) := by (rw [ex6]; exact (i_add rfl (show (1 : Int32).toInt = 1 from rfl) (by omega) (by omega)))) | skip
      exact ih x6 I L5 w_I q_I   (by omega)  (by omega)
set_option maxHeartbeats 4000000 in
set_option maxRecDepth 100000 in
theorem s_J7_fill_d0a16 {Z : jZ} {I : jI} {L : jL} (w_I : WD Z I) (v0 : Nat) (v1 : Int64) (kv0 : jk Z v0 15) (p0 : jlen Z v0 ≤ 1000000) {Q : jI → jL → Prop} (hQ : ∀  (I' : jI) (L' : jL), WD Z I' → FR Ws_J7_fill_d0a16 Z I Z I' → Q I' L') : f_J7_fill_d0a16 v0 v1 Z I L Q := by
  unfold f_J7_fill_d0a16
  have q_I : FR Ws_J7_fill_d0a16 Z I Z I := FR.rf
  intro x7 ex7
  have rx7 := i_rng x7
  first | (have tx7 : x7.toInt = ((jlen Z v0 : Nat) : Int) := by (rw [ex7]; exact (i_nI (by omega)))) | (have tx7 : x7.toInt = (nI (jlen Z v0)).toInt := by rw [ex7])
  have t8 : (0 : Int32).toInt = 0 := rfl
  exact ⟨((jlen Z v0 : Int) - (0 : Int32).toInt).toNat + 1, l_J7_fill_d0a16_L6 w_I v0 v1 kv0 p0 x7  hQ   _ (0 : Int32) I L w_I q_I   (by omega)  (by omega)⟩
def Ws_X1_prepare : List (Nat × Nat) := [(1, 0), (1, 2), (1, 3), (1, 4), (1, 5), (1, 6), (1, 7), (1, 8), (1, 9)]
set_option maxHeartbeats 4000000 in
set_option maxRecDepth 100000 in
theorem l_X1_prepare_L43 {Z : jZ} {I0 : jI} {Q : jI → jL → Prop} (w0 : WD Z I0) (v0 : Nat) (v1 : Int32) (kv0 : jk Z v0 1) (p0 : 0 ≤ v1.toInt) (hQ : ∀  (I' : jI) (L' : jL), WD Z I' → FR Ws_X1_prepare Z I0 Z I' → Q I' L') : ∀ (n : Nat) (v2 : Int32) (I : jI) (L : jL), WD Z I → FR Ws_X1_prepare Z I0 Z I →   (0 ≤ v2.toInt ∧ v2.toInt ≤ 6) → 6 - v2.toInt < (n : Int) → f_X1_prepare_L43  Z Q n v0 v2 I L := by
  intro n
  induction n with
  | zero =>
    intro v2 I L w_I q_I   li  me
    exfalso
    omega
  | succ n ih =>
    intro v2 I L w_I q_I   li  me
    unfold f_X1_prepare_L43
    have rv2 := i_rng v2
    have rv1 := i_rng v1
    refine ⟨fun c1 => ?_, fun c1 => ?_⟩
    · skip
      first | (have t2 : (6) ≤ v2.toInt := (i_le (show (6 : Int32).toInt = 6 from rfl) rfl).mp c1) | (have t2 : (6 : Int32).toInt ≤ v2.toInt := (i_le rfl rfl).mp c1) | skip
      exact hQ  I L w_I q_I 
    · skip
      first | (have t3 : ¬ ((6) ≤ v2.toInt) := (not_congr (i_le (show (6 : Int32).toInt = 6 from rfl) rfl)).mp c1) | (have t3 : ¬ ((6 : Int32).toInt ≤ v2.toInt) := (not_congr (i_le rfl rfl)).mp c1) | skip
      intro b4 eb4
      obtain ⟨x5, ex5, kb4, lb4⟩ := sh_f w_I.1 kv0 (j := 0) (k := 16) (m := 6) rfl
      cases eb4.symm.trans ex5
      have o6 : vp_in v2 6 := vi_of rfl (by omega) (by omega)
      refine ⟨o6, ?_⟩
      intro I7 eI7
      have t8 : (0 : Int32).toInt = 0 := rfl
      have w_I7 : WD Z I7 := by rw [eI7]; exact WD_putA w_I 1 0 kv0 eb4 kb4 rfl rfl (by decide) trivial
      have f_I7 : FR [(1, 0)] Z I Z I7 := by rw [eI7]; exact FR_upA w_I.2.1 kv0 eb4 kb4 rfl rfl List.mem_cons_self
      have q_I7 : FR Ws_X1_prepare Z I0 Z I7 := q_I.trans w0.1 w0.2.1 (f_I7.mono (by decide))
      intro b9 eb9
      obtain ⟨x10, ex10, kb9, lb9⟩ := sh_f w_I7.1 kv0 (j := 2) (k := 14) (m := 6) rfl
      cases eb9.symm.trans ex10
      have o11 : vp_in v2 6 := vi_of rfl (by omega) (by omega)
      refine ⟨o11, ?_⟩
      intro I12 eI12
      have t13 : (-1 : Int32).toInt = -1 := rfl
      have w_I12 : WD Z I12 := by rw [eI12]; exact WD_putA w_I7 1 2 kv0 eb9 kb9 rfl rfl (by decide) (by constructor <;> omega)
      have f_I12 : FR [(1, 2)] Z I7 Z I12 := by rw [eI12]; exact FR_upA w_I7.2.1 kv0 eb9 kb9 rfl rfl List.mem_cons_self
      have q_I12 : FR Ws_X1_prepare Z I0 Z I12 := q_I7.trans w0.1 w0.2.1 (f_I12.mono (by decide))
      intro b14 eb14
      obtain ⟨x15, ex15, kb14, lb14⟩ := sh_f w_I12.1 kv0 (j := 3) (k := 14) (m := 6) rfl
      cases eb14.symm.trans ex15
      have o16 : vp_in v2 6 := vi_of rfl (by omega) (by omega)
      refine ⟨o16, ?_⟩
      intro I17 eI17
      have t18 : (0 : Int32).toInt = 0 := rfl
      have w_I17 : WD Z I17 := by rw [eI17]; exact WD_putA w_I12 1 3 kv0 eb14 kb14 rfl rfl (by decide) trivial
      have f_I17 : FR [(1, 3)] Z I12 Z I17 := by rw [eI17]; exact FR_upA w_I12.2.1 kv0 eb14 kb14 rfl rfl List.mem_cons_self
      have q_I17 : FR Ws_X1_prepare Z I0 Z I17 := q_I12.trans w0.1 w0.2.1 (f_I17.mono (by decide))
      intro x19 ex19
      have rx19 := i_rng x19
      first | (have tx19 : x19.toInt = v2.toInt + (1) := by (rw [ex19]; exact (i_add rfl (show (1 : Int32).toInt = 1 from rfl) (by omega) (by omega)))) | skip
      exact ih x19 I17 L w_I17 q_I17   (by omega)  (by omega)
set_option maxHeartbeats 4000000 in
set_option maxRecDepth 100000 in
theorem s_X1_prepare {Z : jZ} {I : jI} {L : jL} (w_I : WD Z I) (v0 : Nat) (v1 : Int32) (kv0 : jk Z v0 1) (p0 : 0 ≤ v1.toInt) {Q : jI → jL → Prop} (hQ : ∀  (I' : jI) (L' : jL), WD Z I' → FR Ws_X1_prepare Z I Z I' → Q I' L') : f_X1_prepare v0 v1 Z I L Q := by
  unfold f_X1_prepare
  have q_I : FR Ws_X1_prepare Z I Z I := FR.rf
  have rv1 := i_rng v1
  intro I20 eI20
  try (have t21 : (if (24 : Int32) < v1 then (24 : Int32) else v1).toInt = (min v1.toInt (24)) := (i_min rfl (show (24 : Int32).toInt = 24 from rfl)))
  have w_I20 : WD Z I20 := by rw [eI20]; exact WD_putF w_I 1 6 kv0 (by decide) (by decide) (by constructor <;> omega)
  have f_I20 : FR [(1, 6)] Z I Z I20 := by rw [eI20]; exact FR_putF kv0 (by decide) List.mem_cons_self
  have q_I20 : FR Ws_X1_prepare Z I Z I20 := q_I.trans w_I.1 w_I.2.1 (f_I20.mono (by decide))
  first | (have u22 : (I20 v0 6).toInt = (min v1.toInt (24)) := by (rw [eI20, show jpI I v0 6 (if (24 : Int32) < v1 then (24 : Int32) else v1) v0 6 = (if (24 : Int32) < v1 then (24 : Int32) else v1) from jpI_at] <;> exact (i_min rfl (show (24 : Int32).toInt = 24 from rfl)))) | skip
  intro I23 eI23
  have t24 : (0 : Int32).toInt = 0 := rfl
  have w_I23 : WD Z I23 := by rw [eI23]; exact WD_putF w_I20 1 7 kv0 (by decide) (by decide) trivial
  have f_I23 : FR [(1, 7)] Z I20 Z I23 := by rw [eI23]; exact FR_putF kv0 (by decide) List.mem_cons_self
  have q_I23 : FR Ws_X1_prepare Z I Z I23 := q_I20.trans w_I.1 w_I.2.1 (f_I23.mono (by decide))
  have u25 : (I23 v0 6).toInt = (I20 v0 6).toInt := by rw [f_I23.2.2.1 v0 1 6 kv0 (by decide) (by decide)]
  first | (have u26 : (I23 v0 7).toInt = (0) := by (rw [eI23, show jpI I20 v0 7 (0 : Int32) v0 7 = (0 : Int32) from jpI_at] <;> exact (show (0 : Int32).toInt = 0 from rfl))) | skip
  intro I27 eI27
  have t28 : (0 : Int32).toInt = 0 := rfl
  have w_I27 : WD Z I27 := by rw [eI27]; exact WD_putF w_I23 1 8 kv0 (by decide) (by decide) trivial
  have f_I27 : FR [(1, 8)] Z I23 Z I27 := by rw [eI27]; exact FR_putF kv0 (by decide) List.mem_cons_self
  have q_I27 : FR Ws_X1_prepare Z I Z I27 := q_I23.trans w_I.1 w_I.2.1 (f_I27.mono (by decide))
  have u29 : (I27 v0 6).toInt = (I23 v0 6).toInt := by rw [f_I27.2.2.1 v0 1 6 kv0 (by decide) (by decide)]
  have u30 : (I27 v0 7).toInt = (I23 v0 7).toInt := by rw [f_I27.2.2.1 v0 1 7 kv0 (by decide) (by decide)]
  first | (have u31 : (I27 v0 8).toInt = (0) := by (rw [eI27, show jpI I23 v0 8 (0 : Int32) v0 8 = (0 : Int32) from jpI_at] <;> exact (show (0 : Int32).toInt = 0 from rfl))) | skip
  intro I32 eI32
  have t33 : (0 : Int32).toInt = 0 := rfl
  have w_I32 : WD Z I32 := by rw [eI32]; exact WD_putF w_I27 1 9 kv0 (by decide) (by decide) trivial
  have f_I32 : FR [(1, 9)] Z I27 Z I32 := by rw [eI32]; exact FR_putF kv0 (by decide) List.mem_cons_self
  have q_I32 : FR Ws_X1_prepare Z I Z I32 := q_I27.trans w_I.1 w_I.2.1 (f_I32.mono (by decide))
  have u34 : (I32 v0 6).toInt = (I27 v0 6).toInt := by rw [f_I32.2.2.1 v0 1 6 kv0 (by decide) (by decide)]
  have u35 : (I32 v0 7).toInt = (I27 v0 7).toInt := by rw [f_I32.2.2.1 v0 1 7 kv0 (by decide) (by decide)]
  have u36 : (I32 v0 8).toInt = (I27 v0 8).toInt := by rw [f_I32.2.2.1 v0 1 8 kv0 (by decide) (by decide)]
  first | (have u37 : (I32 v0 9).toInt = (0) := by (rw [eI32, show jpI I27 v0 9 (0 : Int32) v0 9 = (0 : Int32) from jpI_at] <;> exact (show (0 : Int32).toInt = 0 from rfl))) | skip
  intro b38 eb38
  obtain ⟨x39, ex39, kb38, lb38⟩ := sh_f w_I32.1 kv0 (j := 4) (k := 14) (m := 24) rfl
  cases eb38.symm.trans ex39
  have t40 : (0 : Int32).toInt = 0 := rfl
  refine s_J7_fill_53178 w_I32 b38 (0 : Int32) kb38 v0 1 4 kv0 eb38 (by decide) rfl (by omega) (by intro i; first | trivial | exact p1 i _ | exact p2 i _ | (constructor <;> decide)) (fun  I41 L42 w_I41 f_I41  => ?_)
  have q_I41 : FR Ws_X1_prepare Z I Z I41 := q_I32.trans w_I.1 w_I.2.1 (f_I41.mono (by first | decide | (intro p hp; simp at hp ⊢; omega) | simp))
  intro b43 eb43
  obtain ⟨x44, ex44, kb43, lb43⟩ := sh_f w_I41.1 kv0 (j := 5) (k := 14) (m := 24) rfl
  cases eb43.symm.trans ex44
  have t45 : (0 : Int32).toInt = 0 := rfl
  refine s_J7_fill_53178 w_I41 b43 (0 : Int32) kb43 v0 1 5 kv0 eb43 (by decide) rfl (by omega) (by intro i; first | trivial | exact p1 i _ | exact p2 i _ | (constructor <;> decide)) (fun  I46 L47 w_I46 f_I46  => ?_)
  have q_I46 : FR Ws_X1_prepare Z I Z I46 := q_I41.trans w_I.1 w_I.2.1 (f_I46.mono (by first | decide | (intro p hp; simp at hp ⊢; omega) | simp))
  have t48 : (0 : Int32).toInt = 0 := rfl
  exact ⟨(6 - (0 : Int32).toInt).toNat + 1, l_X1_prepare_L43 w_I v0 v1 kv0 p0   hQ   _ (0 : Int32) I46 L47 w_I46 q_I46   (by omega)  (by omega)⟩
def Ws_X1_invite : List (Nat × Nat) := [(1, 0), (1, 7)]
set_option maxHeartbeats 4000000 in
set_option maxRecDepth 100000 in
theorem s_X1_invite {Z : jZ} {I : jI} {L : jL} (w_I : WD Z I) (v0 : Nat) (v1 : Int32) (v2 : Int64) (kv0 : jk Z v0 1) {Q : jI → jL → Prop} (hQ : ∀  (I' : jI) (L' : jL), WD Z I' → FR Ws_X1_invite Z I Z I' → Q I' L') : f_X1_invite v0 v1 v2 Z I L Q := by
  unfold f_X1_invite
  have q_I : FR Ws_X1_invite Z I Z I := FR.rf
  have rv1 := i_rng v1
  refine ⟨fun c1 => ?_, fun c1 => ?_⟩
  · skip
    first | (have t2 : v1.toInt < (0) := (i_lt rfl (show (0 : Int32).toInt = 0 from rfl)).mp c1) | (have t2 : v1.toInt < (0 : Int32).toInt := (i_lt rfl rfl).mp c1) | skip
    exact hQ  I L w_I q_I 
  · skip
    first | (have t3 : ¬ (v1.toInt < (0)) := (not_congr (i_lt rfl (show (0 : Int32).toInt = 0 from rfl))).mp c1) | (have t3 : ¬ (v1.toInt < (0 : Int32).toInt) := (not_congr (i_lt rfl rfl)).mp c1) | skip
    refine ⟨fun c4 => ?_, fun c4 => ?_⟩
    · skip
      first | (have t5 : (6) ≤ v1.toInt := (i_le (show (6 : Int32).toInt = 6 from rfl) rfl).mp c4) | (have t5 : (6 : Int32).toInt ≤ v1.toInt := (i_le rfl rfl).mp c4) | skip
      exact hQ  I L w_I q_I 
    · skip
      first | (have t6 : ¬ ((6) ≤ v1.toInt) := (not_congr (i_le (show (6 : Int32).toInt = 6 from rfl) rfl)).mp c4) | (have t6 : ¬ ((6 : Int32).toInt ≤ v1.toInt) := (not_congr (i_le rfl rfl)).mp c4) | skip
      intro b7 eb7
      obtain ⟨x8, ex8, kb7, lb7⟩ := sh_f w_I.1 kv0 (j := 0) (k := 16) (m := 6) rfl
      cases eb7.symm.trans ex8
      have o9 : vp_in v1 6 := vi_of rfl (by omega) (by omega)
      refine ⟨o9, ?_⟩
      refine ⟨fun c10 => ?_, fun c10 => ?_⟩
      · skip
        first | (have t11 : ¬ ((I b7 v1.toNatClampNeg).toInt = (0)) := (not_congr (i_eq rfl (show (0 : Int32).toInt = 0 from rfl))).mp c10) | (have t11 : ¬ ((I b7 v1.toNatClampNeg).toInt = (0 : Int32).toInt) := (not_congr (i_eq rfl rfl)).mp c10) | skip
        exact hQ  I L w_I q_I 
      · skip
        first | (have t12 : (I b7 v1.toNatClampNeg).toInt = (0) := (i_eq rfl (show (0 : Int32).toInt = 0 from rfl)).mp c10) | (have t12 : (I b7 v1.toNatClampNeg).toInt = (0 : Int32).toInt := (i_eq rfl rfl).mp c10) | skip
        intro b13 eb13
        obtain rfl : b7 = b13 := Option.some.inj (eb7.symm.trans eb13)
        have o14 : vp_in v1 6 := vi_of rfl (by omega) (by omega)
        refine ⟨o14, ?_⟩
        intro I15 eI15
        have t16 : (1 : Int32).toInt = 1 := rfl
        have w_I15 : WD Z I15 := by rw [eI15]; exact WD_putA w_I 1 0 kv0 eb7 kb7 rfl rfl (by decide) trivial
        have f_I15 : FR [(1, 0)] Z I Z I15 := by rw [eI15]; exact FR_upA w_I.2.1 kv0 eb7 kb7 rfl rfl List.mem_cons_self
        have q_I15 : FR Ws_X1_invite Z I Z I15 := q_I.trans w_I.1 w_I.2.1 (f_I15.mono (by decide))
        intro b17 eb17
        obtain ⟨x18, ex18, kb17, lb17⟩ := sh_f w_I15.1 kv0 (j := 1) (k := 15) (m := 6) rfl
        cases eb17.symm.trans ex18
        have o19 : vp_in v1 6 := vi_of rfl (by omega) (by omega)
        refine ⟨o19, ?_⟩
        intro L20 eL20
        intro I21 eI21
        try (have t22 : ((I15 v0 7) + (1 : Int32)).toInt = ((I15 v0 7).toInt + (1)) := (i_add rfl (show (1 : Int32).toInt = 1 from rfl) (by omega) (by omega)))
        have w_I21 : WD Z I21 := by rw [eI21]; exact WD_putF w_I15 1 7 kv0 (by decide) (by decide) trivial
        have f_I21 : FR [(1, 7)] Z I15 Z I21 := by rw [eI21]; exact FR_putF kv0 (by decide) List.mem_cons_self
        have q_I21 : FR Ws_X1_invite Z I Z I21 := q_I15.trans w_I.1 w_I.2.1 (f_I21.mono (by decide))
        first | (have u23 : (I21 v0 7).toInt = ((I15 v0 7).toInt + (1)) := by (rw [eI21, show jpI I15 v0 7 ((I15 v0 7) + (1 : Int32)) v0 7 = ((I15 v0 7) + (1 : Int32)) from jpI_at] <;> exact (i_add rfl (show (1 : Int32).toInt = 1 from rfl) (by omega) (by omega)))) | skip
        exact hQ  I21 L20 w_I21 q_I21 
set_option maxHeartbeats 4000000 in
set_option maxRecDepth 100000 in
theorem s_X11_treads {Z : jZ} {I : jI} {L : jL} (w_I : WD Z I) (v0 : Int64) (v2 : Int32) {Q : Int32 → jI → jL → Prop} (hQ : ∀ (r : Int32), Q r I L) : f_X11_treads v0 v2 Z I L Q := by
  unfold f_X11_treads
  have rv2 := i_rng v2
  refine s_X11_bitOf w_I v2    (fun r1  => ?_)
  refine ⟨fun c2 => ?_, fun c2 => ?_⟩
  · skip
    first | (have t3 : ¬ ((lg_cmp (v0 &&& r1) (0 : Int64)).toInt = (0)) := (not_congr (i_eq rfl (show (0 : Int32).toInt = 0 from rfl))).mp c2) | (have t3 : ¬ ((lg_cmp (v0 &&& r1) (0 : Int64)).toInt = (0 : Int32).toInt) := (not_congr (i_eq rfl rfl)).mp c2) | skip
    have t4 : (0 : Int32).toInt = 0 := rfl
    exact hQ (0 : Int32) 
  · skip
    first | (have t5 : (lg_cmp (v0 &&& r1) (0 : Int64)).toInt = (0) := (i_eq rfl (show (0 : Int32).toInt = 0 from rfl)).mp c2) | (have t5 : (lg_cmp (v0 &&& r1) (0 : Int64)).toInt = (0 : Int32).toInt := (i_eq rfl rfl).mp c2) | skip
    have t6 : (1 : Int32).toInt = 1 := rfl
    exact hQ (1 : Int32) 
def Ws_X1_goOn : List (Nat × Nat) := [(1, 2), (1, 3), (1, 4), (1, 5), (1, 7)]
set_option maxHeartbeats 4000000 in
set_option maxRecDepth 100000 in
theorem l_X1_goOn_L9 {Z : jZ} {I0 : jI} {Q : jI → jL → Prop} (w0 : WD Z I0) (v0 : Nat) (v1 : Int32) (v2 : Int32) (kv0 : jk Z v0 1) (p0 : 0 ≤ v1.toInt ∧ v1.toInt ≤ 5) (hQ : ∀  (I' : jI) (L' : jL), WD Z I' → FR Ws_X1_goOn Z I0 Z I' → Q I' L') : ∀ (n : Nat) (v3 : Int32) (I : jI) (L : jL), WD Z I → FR Ws_X1_goOn Z I0 Z I →   (0 ≤ v3.toInt ∧ v3.toInt ≤ 24) → 24 - v3.toInt < (n : Int) → f_X1_goOn_L9  Z Q n v0 v1 v2 v3 I L := by
  intro n
  induction n with
  | zero =>
    intro v3 I L w_I q_I   li  me
    exfalso
    omega
  | succ n ih =>
    intro v3 I L w_I q_I   li  me
    unfold f_X1_goOn_L9
    have rv3 := i_rng v3
    have rv1 := i_rng v1
    have rv2 := i_rng v2
    have t2 : 0 ≤ (I v0 6).toInt ∧ (I v0 6).toInt ≤ 24 := w_I.fld 1 6 kv0 (by decide)
    refine ⟨fun c3 => ?_, fun c3 => ?_⟩
    · skip
      first | (have t4 : ((I v0 6).toInt - (1)) ≤ v3.toInt := (i_le (i_sub rfl (show (1 : Int32).toInt = 1 from rfl) (by omega) (by omega)) rfl).mp c3) | (have t4 : ((I v0 6) - (1 : Int32)).toInt ≤ v3.toInt := (i_le rfl rfl).mp c3) | skip
      unfold f_X1_goOn_b38
      refine ⟨fun c5 => ?_, fun c5 => ?_⟩
      · skip
        first | (have t6 : v3.toInt < (0) := (i_lt rfl (show (0 : Int32).toInt = 0 from rfl)).mp c5) | (have t6 : v3.toInt < (0 : Int32).toInt := (i_lt rfl rfl).mp c5) | skip
        exact hQ  I L w_I q_I 
      · skip
        first | (have t7 : ¬ (v3.toInt < (0)) := (not_congr (i_lt rfl (show (0 : Int32).toInt = 0 from rfl))).mp c5) | (have t7 : ¬ (v3.toInt < (0 : Int32).toInt) := (not_congr (i_lt rfl rfl)).mp c5) | skip
        have t9 : 0 ≤ (I v0 6).toInt ∧ (I v0 6).toInt ≤ 24 := w_I.fld 1 6 kv0 (by decide)
        refine ⟨fun c10 => ?_, fun c10 => ?_⟩
        · skip
          first | (have t11 : v3.toInt < (I v0 6).toInt := (i_lt rfl rfl).mp c10) | (have t11 : v3.toInt < (I v0 6).toInt := (i_lt rfl rfl).mp c10) | skip
          have t13 : 0 ≤ (I v0 6).toInt ∧ (I v0 6).toInt ≤ 24 := w_I.fld 1 6 kv0 (by decide)
          refine ⟨fun c14 => ?_, fun c14 => ?_⟩
          · skip
            first | (have t15 : ((I v0 6).toInt - (1)) ≤ v3.toInt := (i_le (i_sub rfl (show (1 : Int32).toInt = 1 from rfl) (by omega) (by omega)) rfl).mp c14) | (have t15 : ((I v0 6) - (1 : Int32)).toInt ≤ v3.toInt := (i_le rfl rfl).mp c14) | skip
            unfold f_X1_goOn_b92
            intro b16 eb16
            obtain ⟨x17, ex17, kb16, lb16⟩ := sh_f w_I.1 kv0 (j := 2) (k := 14) (m := 6) rfl
            cases eb16.symm.trans ex17
            have o18 : vp_in v1 6 := vi_of rfl (by omega) (by omega)
            refine ⟨o18, ?_⟩
            have t19 : -1 ≤ (I b16 v1.toNatClampNeg).toInt ∧ (I b16 v1.toNatClampNeg).toInt ≤ 23 := w_I.arr 1 2 kv0 eb16 kb16 rfl rfl _
            refine ⟨fun c20 => ?_, fun c20 => ?_⟩
            · skip
              first | (have t21 : (I b16 v1.toNatClampNeg).toInt < (0) := (i_lt rfl (show (0 : Int32).toInt = 0 from rfl)).mp c20) | (have t21 : (I b16 v1.toNatClampNeg).toInt < (0 : Int32).toInt := (i_lt rfl rfl).mp c20) | skip
              unfold f_X1_goOn_b116
              intro b22 eb22
              obtain ⟨x23, ex23, kb22, lb22⟩ := sh_f w_I.1 kv0 (j := 4) (k := 14) (m := 24) rfl
              cases eb22.symm.trans ex23
              have o24 : vp_in v3 24 := vi_of rfl (by omega) (by omega)
              refine ⟨o24, ?_⟩
              have o25 : vp_in v3 24 := vi_of rfl (by omega) (by omega)
              refine ⟨o25, ?_⟩
              intro I26 eI26
              try (have t27 : ((I b22 v3.toNatClampNeg) + (1 : Int32)).toInt = ((I b22 v3.toNatClampNeg).toInt + (1)) := (i_add rfl (show (1 : Int32).toInt = 1 from rfl) (by omega) (by omega)))
              have w_I26 : WD Z I26 := by rw [eI26]; exact WD_putA w_I 1 4 kv0 eb22 kb22 rfl rfl (by decide) trivial
              have f_I26 : FR [(1, 4)] Z I Z I26 := by rw [eI26]; exact FR_upA w_I.2.1 kv0 eb22 kb22 rfl rfl List.mem_cons_self
              have q_I26 : FR Ws_X1_goOn Z I0 Z I26 := q_I.trans w0.1 w0.2.1 (f_I26.mono (by decide))
              have u28 : (I26 v0 6).toInt = (I v0 6).toInt := by rw [f_I26.2.2.1 v0 1 6 kv0 (by decide) (by decide)]
              intro b29 eb29
              obtain rfl : b16 = b29 := Option.some.inj (eb16.symm.trans eb29)
              have o30 : vp_in v1 6 := vi_of rfl (by omega) (by omega)
              refine ⟨o30, ?_⟩
              intro I31 eI31
              have w_I31 : WD Z I31 := by rw [eI31]; exact WD_putA w_I26 1 2 kv0 eb16 kb16 rfl rfl (by decide) (by constructor <;> omega)
              have f_I31 : FR [(1, 2)] Z I26 Z I31 := by rw [eI31]; exact FR_upA w_I26.2.1 kv0 eb16 kb16 rfl rfl List.mem_cons_self
              have q_I31 : FR Ws_X1_goOn Z I0 Z I31 := q_I26.trans w0.1 w0.2.1 (f_I31.mono (by decide))
              have u32 : (I31 v0 6).toInt = (I26 v0 6).toInt := by rw [f_I31.2.2.1 v0 1 6 kv0 (by decide) (by decide)]
              have t34 : 0 ≤ (I31 v0 6).toInt ∧ (I31 v0 6).toInt ≤ 24 := w_I31.fld 1 6 kv0 (by decide)
              refine ⟨fun c35 => ?_, fun c35 => ?_⟩
              · skip
                first | (have t36 : ¬ (v3.toInt = ((I31 v0 6).toInt - (1))) := (not_congr (i_eq rfl (i_sub rfl (show (1 : Int32).toInt = 1 from rfl) (by omega) (by omega)))).mp c35) | (have t36 : ¬ (v3.toInt = ((I31 v0 6) - (1 : Int32)).toInt) := (not_congr (i_eq rfl rfl)).mp c35) | skip
                unfold f_X1_goOn_b153
                intro I37 eI37
                try (have t38 : ((I31 v0 7) - (0 : Int32)).toInt = ((I31 v0 7).toInt - (0)) := (i_sub rfl (show (0 : Int32).toInt = 0 from rfl) (by omega) (by omega)))
                have w_I37 : WD Z I37 := by rw [eI37]; exact WD_putF w_I31 1 7 kv0 (by decide) (by decide) trivial
                have f_I37 : FR [(1, 7)] Z I31 Z I37 := by rw [eI37]; exact FR_putF kv0 (by decide) List.mem_cons_self
                have q_I37 : FR Ws_X1_goOn Z I0 Z I37 := q_I31.trans w0.1 w0.2.1 (f_I37.mono (by decide))
                have u39 : (I37 v0 6).toInt = (I31 v0 6).toInt := by rw [f_I37.2.2.1 v0 1 6 kv0 (by decide) (by decide)]
                first | (have u40 : (I37 v0 7).toInt = ((I31 v0 7).toInt - (0)) := by (rw [eI37, show jpI I31 v0 7 ((I31 v0 7) - (0 : Int32)) v0 7 = ((I31 v0 7) - (0 : Int32)) from jpI_at] <;> exact (i_sub rfl (show (0 : Int32).toInt = 0 from rfl) (by omega) (by omega)))) | skip
                exact hQ  I37 L w_I37 q_I37 
              · skip
                first | (have t41 : v3.toInt = ((I31 v0 6).toInt - (1)) := (i_eq rfl (i_sub rfl (show (1 : Int32).toInt = 1 from rfl) (by omega) (by omega))).mp c35) | (have t41 : v3.toInt = ((I31 v0 6) - (1 : Int32)).toInt := (i_eq rfl rfl).mp c35) | skip
                unfold f_X1_goOn_b153
                intro I42 eI42
                try (have t43 : ((I31 v0 7) - (1 : Int32)).toInt = ((I31 v0 7).toInt - (1)) := (i_sub rfl (show (1 : Int32).toInt = 1 from rfl) (by omega) (by omega)))
                have w_I42 : WD Z I42 := by rw [eI42]; exact WD_putF w_I31 1 7 kv0 (by decide) (by decide) trivial
                have f_I42 : FR [(1, 7)] Z I31 Z I42 := by rw [eI42]; exact FR_putF kv0 (by decide) List.mem_cons_self
                have q_I42 : FR Ws_X1_goOn Z I0 Z I42 := q_I31.trans w0.1 w0.2.1 (f_I42.mono (by decide))
                have u44 : (I42 v0 6).toInt = (I31 v0 6).toInt := by rw [f_I42.2.2.1 v0 1 6 kv0 (by decide) (by decide)]
                first | (have u45 : (I42 v0 7).toInt = ((I31 v0 7).toInt - (1)) := by (rw [eI42, show jpI I31 v0 7 ((I31 v0 7) - (1 : Int32)) v0 7 = ((I31 v0 7) - (1 : Int32)) from jpI_at] <;> exact (i_sub rfl (show (1 : Int32).toInt = 1 from rfl) (by omega) (by omega)))) | skip
                exact hQ  I42 L w_I42 q_I42 
            · skip
              first | (have t46 : ¬ ((I b16 v1.toNatClampNeg).toInt < (0)) := (not_congr (i_lt rfl (show (0 : Int32).toInt = 0 from rfl))).mp c20) | (have t46 : ¬ ((I b16 v1.toNatClampNeg).toInt < (0 : Int32).toInt) := (not_congr (i_lt rfl rfl)).mp c20) | skip
              intro b47 eb47
              obtain ⟨x48, ex48, kb47, lb47⟩ := sh_f w_I.1 kv0 (j := 4) (k := 14) (m := 24) rfl
              cases eb47.symm.trans ex48
              intro b49 eb49
              obtain rfl : b16 = b49 := Option.some.inj (eb16.symm.trans eb49)
              have o50 : vp_in v1 6 := vi_of rfl (by omega) (by omega)
              refine ⟨o50, ?_⟩
              have t51 : -1 ≤ (I b16 v1.toNatClampNeg).toInt ∧ (I b16 v1.toNatClampNeg).toInt ≤ 23 := w_I.arr 1 2 kv0 eb16 kb16 rfl rfl _
              have o52 : vp_in (I b16 v1.toNatClampNeg) 24 := vi_of rfl (by omega) (by omega)
              refine ⟨o52, ?_⟩
              have o53 : vp_in (I b16 v1.toNatClampNeg) 24 := vi_of rfl (by omega) (by omega)
              refine ⟨o53, ?_⟩
              intro I54 eI54
              try (have t55 : ((I b47 (I b16 v1.toNatClampNeg).toNatClampNeg) - (1 : Int32)).toInt = ((I b47 (I b16 v1.toNatClampNeg).toNatClampNeg).toInt - (1)) := (i_sub rfl (show (1 : Int32).toInt = 1 from rfl) (by omega) (by omega)))
              have w_I54 : WD Z I54 := by rw [eI54]; exact WD_putA w_I 1 4 kv0 eb47 kb47 rfl rfl (by decide) trivial
              have f_I54 : FR [(1, 4)] Z I Z I54 := by rw [eI54]; exact FR_upA w_I.2.1 kv0 eb47 kb47 rfl rfl List.mem_cons_self
              have q_I54 : FR Ws_X1_goOn Z I0 Z I54 := q_I.trans w0.1 w0.2.1 (f_I54.mono (by decide))
              have u56 : (I54 v0 6).toInt = (I v0 6).toInt := by rw [f_I54.2.2.1 v0 1 6 kv0 (by decide) (by decide)]
              unfold f_X1_goOn_b116
              intro b57 eb57
              obtain rfl : b47 = b57 := Option.some.inj (eb47.symm.trans eb57)
              have o58 : vp_in v3 24 := vi_of rfl (by omega) (by omega)
              refine ⟨o58, ?_⟩
              have o59 : vp_in v3 24 := vi_of rfl (by omega) (by omega)
              refine ⟨o59, ?_⟩
              intro I60 eI60
              try (have t61 : ((I54 b47 v3.toNatClampNeg) + (1 : Int32)).toInt = ((I54 b47 v3.toNatClampNeg).toInt + (1)) := (i_add rfl (show (1 : Int32).toInt = 1 from rfl) (by omega) (by omega)))
              have w_I60 : WD Z I60 := by rw [eI60]; exact WD_putA w_I54 1 4 kv0 eb47 kb47 rfl rfl (by decide) trivial
              have f_I60 : FR [(1, 4)] Z I54 Z I60 := by rw [eI60]; exact FR_upA w_I54.2.1 kv0 eb47 kb47 rfl rfl List.mem_cons_self
              have q_I60 : FR Ws_X1_goOn Z I0 Z I60 := q_I54.trans w0.1 w0.2.1 (f_I60.mono (by decide))
              have u62 : (I60 v0 6).toInt = (I54 v0 6).toInt := by rw [f_I60.2.2.1 v0 1 6 kv0 (by decide) (by decide)]
              intro b63 eb63
              obtain rfl : b16 = b63 := Option.some.inj (eb16.symm.trans eb63)
              have o64 : vp_in v1 6 := vi_of rfl (by omega) (by omega)
              refine ⟨o64, ?_⟩
              intro I65 eI65
              have w_I65 : WD Z I65 := by rw [eI65]; exact WD_putA w_I60 1 2 kv0 eb16 kb16 rfl rfl (by decide) (by constructor <;> omega)
              have f_I65 : FR [(1, 2)] Z I60 Z I65 := by rw [eI65]; exact FR_upA w_I60.2.1 kv0 eb16 kb16 rfl rfl List.mem_cons_self
              have q_I65 : FR Ws_X1_goOn Z I0 Z I65 := q_I60.trans w0.1 w0.2.1 (f_I65.mono (by decide))
              have u66 : (I65 v0 6).toInt = (I60 v0 6).toInt := by rw [f_I65.2.2.1 v0 1 6 kv0 (by decide) (by decide)]
              have t68 : 0 ≤ (I65 v0 6).toInt ∧ (I65 v0 6).toInt ≤ 24 := w_I65.fld 1 6 kv0 (by decide)
              refine ⟨fun c69 => ?_, fun c69 => ?_⟩
              · skip
                first | (have t70 : ¬ (v3.toInt = ((I65 v0 6).toInt - (1))) := (not_congr (i_eq rfl (i_sub rfl (show (1 : Int32).toInt = 1 from rfl) (by omega) (by omega)))).mp c69) | (have t70 : ¬ (v3.toInt = ((I65 v0 6) - (1 : Int32)).toInt) := (not_congr (i_eq rfl rfl)).mp c69) | skip
                unfold f_X1_goOn_b153
                intro I71 eI71
                try (have t72 : ((I65 v0 7) - (0 : Int32)).toInt = ((I65 v0 7).toInt - (0)) := (i_sub rfl (show (0 : Int32).toInt = 0 from rfl) (by omega) (by omega)))
                have w_I71 : WD Z I71 := by rw [eI71]; exact WD_putF w_I65 1 7 kv0 (by decide) (by decide) trivial
                have f_I71 : FR [(1, 7)] Z I65 Z I71 := by rw [eI71]; exact FR_putF kv0 (by decide) List.mem_cons_self
                have q_I71 : FR Ws_X1_goOn Z I0 Z I71 := q_I65.trans w0.1 w0.2.1 (f_I71.mono (by decide))
                have u73 : (I71 v0 6).toInt = (I65 v0 6).toInt := by rw [f_I71.2.2.1 v0 1 6 kv0 (by decide) (by decide)]
                first | (have u74 : (I71 v0 7).toInt = ((I65 v0 7).toInt - (0)) := by (rw [eI71, show jpI I65 v0 7 ((I65 v0 7) - (0 : Int32)) v0 7 = ((I65 v0 7) - (0 : Int32)) from jpI_at] <;> exact (i_sub rfl (show (0 : Int32).toInt = 0 from rfl) (by omega) (by omega)))) | skip
                exact hQ  I71 L w_I71 q_I71 
              · skip
                first | (have t75 : v3.toInt = ((I65 v0 6).toInt - (1)) := (i_eq rfl (i_sub rfl (show (1 : Int32).toInt = 1 from rfl) (by omega) (by omega))).mp c69) | (have t75 : v3.toInt = ((I65 v0 6) - (1 : Int32)).toInt := (i_eq rfl rfl).mp c69) | skip
                unfold f_X1_goOn_b153
                intro I76 eI76
                try (have t77 : ((I65 v0 7) - (1 : Int32)).toInt = ((I65 v0 7).toInt - (1)) := (i_sub rfl (show (1 : Int32).toInt = 1 from rfl) (by omega) (by omega)))
                have w_I76 : WD Z I76 := by rw [eI76]; exact WD_putF w_I65 1 7 kv0 (by decide) (by decide) trivial
                have f_I76 : FR [(1, 7)] Z I65 Z I76 := by rw [eI76]; exact FR_putF kv0 (by decide) List.mem_cons_self
                have q_I76 : FR Ws_X1_goOn Z I0 Z I76 := q_I65.trans w0.1 w0.2.1 (f_I76.mono (by decide))
                have u78 : (I76 v0 6).toInt = (I65 v0 6).toInt := by rw [f_I76.2.2.1 v0 1 6 kv0 (by decide) (by decide)]
                first | (have u79 : (I76 v0 7).toInt = ((I65 v0 7).toInt - (1)) := by (rw [eI76, show jpI I65 v0 7 ((I65 v0 7) - (1 : Int32)) v0 7 = ((I65 v0 7) - (1 : Int32)) from jpI_at] <;> exact (i_sub rfl (show (1 : Int32).toInt = 1 from rfl) (by omega) (by omega)))) | skip
                exact hQ  I76 L w_I76 q_I76 
          · skip
            first | (have t80 : ¬ (((I v0 6).toInt - (1)) ≤ v3.toInt) := (not_congr (i_le (i_sub rfl (show (1 : Int32).toInt = 1 from rfl) (by omega) (by omega)) rfl)).mp c14) | (have t80 : ¬ (((I v0 6) - (1 : Int32)).toInt ≤ v3.toInt) := (not_congr (i_le rfl rfl)).mp c14) | skip
            intro b81 eb81
            obtain ⟨x82, ex82, kb81, lb81⟩ := sh_f w_I.1 kv0 (j := 4) (k := 14) (m := 24) rfl
            cases eb81.symm.trans ex82
            have o83 : vp_in v3 24 := vi_of rfl (by omega) (by omega)
            refine ⟨o83, ?_⟩
            refine ⟨fun c84 => ?_, fun c84 => ?_⟩
            · skip
              first | (have t85 : (I b81 v3.toNatClampNeg).toInt < v2.toInt := (i_lt rfl rfl).mp c84) | (have t85 : (I b81 v3.toNatClampNeg).toInt < v2.toInt := (i_lt rfl rfl).mp c84) | skip
              unfold f_X1_goOn_b92
              intro b86 eb86
              obtain ⟨x87, ex87, kb86, lb86⟩ := sh_f w_I.1 kv0 (j := 2) (k := 14) (m := 6) rfl
              cases eb86.symm.trans ex87
              have o88 : vp_in v1 6 := vi_of rfl (by omega) (by omega)
              refine ⟨o88, ?_⟩
              have t89 : -1 ≤ (I b86 v1.toNatClampNeg).toInt ∧ (I b86 v1.toNatClampNeg).toInt ≤ 23 := w_I.arr 1 2 kv0 eb86 kb86 rfl rfl _
              refine ⟨fun c90 => ?_, fun c90 => ?_⟩
              · skip
                first | (have t91 : (I b86 v1.toNatClampNeg).toInt < (0) := (i_lt rfl (show (0 : Int32).toInt = 0 from rfl)).mp c90) | (have t91 : (I b86 v1.toNatClampNeg).toInt < (0 : Int32).toInt := (i_lt rfl rfl).mp c90) | skip
                unfold f_X1_goOn_b116
                intro b92 eb92
                obtain rfl : b81 = b92 := Option.some.inj (eb81.symm.trans eb92)
                have o93 : vp_in v3 24 := vi_of rfl (by omega) (by omega)
                refine ⟨o93, ?_⟩
                have o94 : vp_in v3 24 := vi_of rfl (by omega) (by omega)
                refine ⟨o94, ?_⟩
                intro I95 eI95
                try (have t96 : ((I b81 v3.toNatClampNeg) + (1 : Int32)).toInt = ((I b81 v3.toNatClampNeg).toInt + (1)) := (i_add rfl (show (1 : Int32).toInt = 1 from rfl) (by omega) (by omega)))
                have w_I95 : WD Z I95 := by rw [eI95]; exact WD_putA w_I 1 4 kv0 eb81 kb81 rfl rfl (by decide) trivial
                have f_I95 : FR [(1, 4)] Z I Z I95 := by rw [eI95]; exact FR_upA w_I.2.1 kv0 eb81 kb81 rfl rfl List.mem_cons_self
                have q_I95 : FR Ws_X1_goOn Z I0 Z I95 := q_I.trans w0.1 w0.2.1 (f_I95.mono (by decide))
                have u97 : (I95 v0 6).toInt = (I v0 6).toInt := by rw [f_I95.2.2.1 v0 1 6 kv0 (by decide) (by decide)]
                intro b98 eb98
                obtain rfl : b86 = b98 := Option.some.inj (eb86.symm.trans eb98)
                have o99 : vp_in v1 6 := vi_of rfl (by omega) (by omega)
                refine ⟨o99, ?_⟩
                intro I100 eI100
                have w_I100 : WD Z I100 := by rw [eI100]; exact WD_putA w_I95 1 2 kv0 eb86 kb86 rfl rfl (by decide) (by constructor <;> omega)
                have f_I100 : FR [(1, 2)] Z I95 Z I100 := by rw [eI100]; exact FR_upA w_I95.2.1 kv0 eb86 kb86 rfl rfl List.mem_cons_self
                have q_I100 : FR Ws_X1_goOn Z I0 Z I100 := q_I95.trans w0.1 w0.2.1 (f_I100.mono (by decide))
                have u101 : (I100 v0 6).toInt = (I95 v0 6).toInt := by rw [f_I100.2.2.1 v0 1 6 kv0 (by decide) (by decide)]
                have t103 : 0 ≤ (I100 v0 6).toInt ∧ (I100 v0 6).toInt ≤ 24 := w_I100.fld 1 6 kv0 (by decide)
                refine ⟨fun c104 => ?_, fun c104 => ?_⟩
                · skip
                  first | (have t105 : ¬ (v3.toInt = ((I100 v0 6).toInt - (1))) := (not_congr (i_eq rfl (i_sub rfl (show (1 : Int32).toInt = 1 from rfl) (by omega) (by omega)))).mp c104) | (have t105 : ¬ (v3.toInt = ((I100 v0 6) - (1 : Int32)).toInt) := (not_congr (i_eq rfl rfl)).mp c104) | skip
                  unfold f_X1_goOn_b153
                  intro I106 eI106
                  try (have t107 : ((I100 v0 7) - (0 : Int32)).toInt = ((I100 v0 7).toInt - (0)) := (i_sub rfl (show (0 : Int32).toInt = 0 from rfl) (by omega) (by omega)))
                  have w_I106 : WD Z I106 := by rw [eI106]; exact WD_putF w_I100 1 7 kv0 (by decide) (by decide) trivial
                  have f_I106 : FR [(1, 7)] Z I100 Z I106 := by rw [eI106]; exact FR_putF kv0 (by decide) List.mem_cons_self
                  have q_I106 : FR Ws_X1_goOn Z I0 Z I106 := q_I100.trans w0.1 w0.2.1 (f_I106.mono (by decide))
                  have u108 : (I106 v0 6).toInt = (I100 v0 6).toInt := by rw [f_I106.2.2.1 v0 1 6 kv0 (by decide) (by decide)]
                  first | (have u109 : (I106 v0 7).toInt = ((I100 v0 7).toInt - (0)) := by (rw [eI106, show jpI I100 v0 7 ((I100 v0 7) - (0 : Int32)) v0 7 = ((I100 v0 7) - (0 : Int32)) from jpI_at] <;> exact (i_sub rfl (show (0 : Int32).toInt = 0 from rfl) (by omega) (by omega)))) | skip
                  exact hQ  I106 L w_I106 q_I106 
                · skip
                  first | (have t110 : v3.toInt = ((I100 v0 6).toInt - (1)) := (i_eq rfl (i_sub rfl (show (1 : Int32).toInt = 1 from rfl) (by omega) (by omega))).mp c104) | (have t110 : v3.toInt = ((I100 v0 6) - (1 : Int32)).toInt := (i_eq rfl rfl).mp c104) | skip
                  unfold f_X1_goOn_b153
                  intro I111 eI111
                  try (have t112 : ((I100 v0 7) - (1 : Int32)).toInt = ((I100 v0 7).toInt - (1)) := (i_sub rfl (show (1 : Int32).toInt = 1 from rfl) (by omega) (by omega)))
                  have w_I111 : WD Z I111 := by rw [eI111]; exact WD_putF w_I100 1 7 kv0 (by decide) (by decide) trivial
                  have f_I111 : FR [(1, 7)] Z I100 Z I111 := by rw [eI111]; exact FR_putF kv0 (by decide) List.mem_cons_self
                  have q_I111 : FR Ws_X1_goOn Z I0 Z I111 := q_I100.trans w0.1 w0.2.1 (f_I111.mono (by decide))
                  have u113 : (I111 v0 6).toInt = (I100 v0 6).toInt := by rw [f_I111.2.2.1 v0 1 6 kv0 (by decide) (by decide)]
                  first | (have u114 : (I111 v0 7).toInt = ((I100 v0 7).toInt - (1)) := by (rw [eI111, show jpI I100 v0 7 ((I100 v0 7) - (1 : Int32)) v0 7 = ((I100 v0 7) - (1 : Int32)) from jpI_at] <;> exact (i_sub rfl (show (1 : Int32).toInt = 1 from rfl) (by omega) (by omega)))) | skip
                  exact hQ  I111 L w_I111 q_I111 
              · skip
                first | (have t115 : ¬ ((I b86 v1.toNatClampNeg).toInt < (0)) := (not_congr (i_lt rfl (show (0 : Int32).toInt = 0 from rfl))).mp c90) | (have t115 : ¬ ((I b86 v1.toNatClampNeg).toInt < (0 : Int32).toInt) := (not_congr (i_lt rfl rfl)).mp c90) | skip
                intro b116 eb116
                obtain rfl : b81 = b116 := Option.some.inj (eb81.symm.trans eb116)
                intro b117 eb117
                obtain rfl : b86 = b117 := Option.some.inj (eb86.symm.trans eb117)
                have o118 : vp_in v1 6 := vi_of rfl (by omega) (by omega)
                refine ⟨o118, ?_⟩
                have t119 : -1 ≤ (I b86 v1.toNatClampNeg).toInt ∧ (I b86 v1.toNatClampNeg).toInt ≤ 23 := w_I.arr 1 2 kv0 eb86 kb86 rfl rfl _
                have o120 : vp_in (I b86 v1.toNatClampNeg) 24 := vi_of rfl (by omega) (by omega)
                refine ⟨o120, ?_⟩
                have o121 : vp_in (I b86 v1.toNatClampNeg) 24 := vi_of rfl (by omega) (by omega)
                refine ⟨o121, ?_⟩
                intro I122 eI122
                try (have t123 : ((I b81 (I b86 v1.toNatClampNeg).toNatClampNeg) - (1 : Int32)).toInt = ((I b81 (I b86 v1.toNatClampNeg).toNatClampNeg).toInt - (1)) := (i_sub rfl (show (1 : Int32).toInt = 1 from rfl) (by omega) (by omega)))
                have w_I122 : WD Z I122 := by rw [eI122]; exact WD_putA w_I 1 4 kv0 eb81 kb81 rfl rfl (by decide) trivial
                have f_I122 : FR [(1, 4)] Z I Z I122 := by rw [eI122]; exact FR_upA w_I.2.1 kv0 eb81 kb81 rfl rfl List.mem_cons_self
                have q_I122 : FR Ws_X1_goOn Z I0 Z I122 := q_I.trans w0.1 w0.2.1 (f_I122.mono (by decide))
                have u124 : (I122 v0 6).toInt = (I v0 6).toInt := by rw [f_I122.2.2.1 v0 1 6 kv0 (by decide) (by decide)]
                unfold f_X1_goOn_b116
                intro b125 eb125
                obtain rfl : b81 = b125 := Option.some.inj (eb81.symm.trans eb125)
                have o126 : vp_in v3 24 := vi_of rfl (by omega) (by omega)
                refine ⟨o126, ?_⟩
                have o127 : vp_in v3 24 := vi_of rfl (by omega) (by omega)
                refine ⟨o127, ?_⟩
                intro I128 eI128
                try (have t129 : ((I122 b81 v3.toNatClampNeg) + (1 : Int32)).toInt = ((I122 b81 v3.toNatClampNeg).toInt + (1)) := (i_add rfl (show (1 : Int32).toInt = 1 from rfl) (by omega) (by omega)))
                have w_I128 : WD Z I128 := by rw [eI128]; exact WD_putA w_I122 1 4 kv0 eb81 kb81 rfl rfl (by decide) trivial
                have f_I128 : FR [(1, 4)] Z I122 Z I128 := by rw [eI128]; exact FR_upA w_I122.2.1 kv0 eb81 kb81 rfl rfl List.mem_cons_self
                have q_I128 : FR Ws_X1_goOn Z I0 Z I128 := q_I122.trans w0.1 w0.2.1 (f_I128.mono (by decide))
                have u130 : (I128 v0 6).toInt = (I122 v0 6).toInt := by rw [f_I128.2.2.1 v0 1 6 kv0 (by decide) (by decide)]
                intro b131 eb131
                obtain rfl : b86 = b131 := Option.some.inj (eb86.symm.trans eb131)
                have o132 : vp_in v1 6 := vi_of rfl (by omega) (by omega)
                refine ⟨o132, ?_⟩
                intro I133 eI133
                have w_I133 : WD Z I133 := by rw [eI133]; exact WD_putA w_I128 1 2 kv0 eb86 kb86 rfl rfl (by decide) (by constructor <;> omega)
                have f_I133 : FR [(1, 2)] Z I128 Z I133 := by rw [eI133]; exact FR_upA w_I128.2.1 kv0 eb86 kb86 rfl rfl List.mem_cons_self
                have q_I133 : FR Ws_X1_goOn Z I0 Z I133 := q_I128.trans w0.1 w0.2.1 (f_I133.mono (by decide))
                have u134 : (I133 v0 6).toInt = (I128 v0 6).toInt := by rw [f_I133.2.2.1 v0 1 6 kv0 (by decide) (by decide)]
                have t136 : 0 ≤ (I133 v0 6).toInt ∧ (I133 v0 6).toInt ≤ 24 := w_I133.fld 1 6 kv0 (by decide)
                refine ⟨fun c137 => ?_, fun c137 => ?_⟩
                · skip
                  first | (have t138 : ¬ (v3.toInt = ((I133 v0 6).toInt - (1))) := (not_congr (i_eq rfl (i_sub rfl (show (1 : Int32).toInt = 1 from rfl) (by omega) (by omega)))).mp c137) | (have t138 : ¬ (v3.toInt = ((I133 v0 6) - (1 : Int32)).toInt) := (not_congr (i_eq rfl rfl)).mp c137) | skip
                  unfold f_X1_goOn_b153
                  intro I139 eI139
                  try (have t140 : ((I133 v0 7) - (0 : Int32)).toInt = ((I133 v0 7).toInt - (0)) := (i_sub rfl (show (0 : Int32).toInt = 0 from rfl) (by omega) (by omega)))
                  have w_I139 : WD Z I139 := by rw [eI139]; exact WD_putF w_I133 1 7 kv0 (by decide) (by decide) trivial
                  have f_I139 : FR [(1, 7)] Z I133 Z I139 := by rw [eI139]; exact FR_putF kv0 (by decide) List.mem_cons_self
                  have q_I139 : FR Ws_X1_goOn Z I0 Z I139 := q_I133.trans w0.1 w0.2.1 (f_I139.mono (by decide))
                  have u141 : (I139 v0 6).toInt = (I133 v0 6).toInt := by rw [f_I139.2.2.1 v0 1 6 kv0 (by decide) (by decide)]
                  first | (have u142 : (I139 v0 7).toInt = ((I133 v0 7).toInt - (0)) := by (rw [eI139, show jpI I133 v0 7 ((I133 v0 7) - (0 : Int32)) v0 7 = ((I133 v0 7) - (0 : Int32)) from jpI_at] <;> exact (i_sub rfl (show (0 : Int32).toInt = 0 from rfl) (by omega) (by omega)))) | skip
                  exact hQ  I139 L w_I139 q_I139 
                · skip
                  first | (have t143 : v3.toInt = ((I133 v0 6).toInt - (1)) := (i_eq rfl (i_sub rfl (show (1 : Int32).toInt = 1 from rfl) (by omega) (by omega))).mp c137) | (have t143 : v3.toInt = ((I133 v0 6) - (1 : Int32)).toInt := (i_eq rfl rfl).mp c137) | skip
                  unfold f_X1_goOn_b153
                  intro I144 eI144
                  try (have t145 : ((I133 v0 7) - (1 : Int32)).toInt = ((I133 v0 7).toInt - (1)) := (i_sub rfl (show (1 : Int32).toInt = 1 from rfl) (by omega) (by omega)))
                  have w_I144 : WD Z I144 := by rw [eI144]; exact WD_putF w_I133 1 7 kv0 (by decide) (by decide) trivial
                  have f_I144 : FR [(1, 7)] Z I133 Z I144 := by rw [eI144]; exact FR_putF kv0 (by decide) List.mem_cons_self
                  have q_I144 : FR Ws_X1_goOn Z I0 Z I144 := q_I133.trans w0.1 w0.2.1 (f_I144.mono (by decide))
                  have u146 : (I144 v0 6).toInt = (I133 v0 6).toInt := by rw [f_I144.2.2.1 v0 1 6 kv0 (by decide) (by decide)]
                  first | (have u147 : (I144 v0 7).toInt = ((I133 v0 7).toInt - (1)) := by (rw [eI144, show jpI I133 v0 7 ((I133 v0 7) - (1 : Int32)) v0 7 = ((I133 v0 7) - (1 : Int32)) from jpI_at] <;> exact (i_sub rfl (show (1 : Int32).toInt = 1 from rfl) (by omega) (by omega)))) | skip
                  exact hQ  I144 L w_I144 q_I144 
            · skip
              first | (have t148 : ¬ ((I b81 v3.toNatClampNeg).toInt < v2.toInt) := (not_congr (i_lt rfl rfl)).mp c84) | (have t148 : ¬ ((I b81 v3.toNatClampNeg).toInt < v2.toInt) := (not_congr (i_lt rfl rfl)).mp c84) | skip
              intro b149 eb149
              obtain ⟨x150, ex150, kb149, lb149⟩ := sh_f w_I.1 kv0 (j := 3) (k := 14) (m := 6) rfl
              cases eb149.symm.trans ex150
              have o151 : vp_in v1 6 := vi_of rfl (by omega) (by omega)
              refine ⟨o151, ?_⟩
              have o152 : vp_in v1 6 := vi_of rfl (by omega) (by omega)
              refine ⟨o152, ?_⟩
              intro I153 eI153
              try (have t154 : ((I b149 v1.toNatClampNeg) + (1 : Int32)).toInt = ((I b149 v1.toNatClampNeg).toInt + (1)) := (i_add rfl (show (1 : Int32).toInt = 1 from rfl) (by omega) (by omega)))
              have w_I153 : WD Z I153 := by rw [eI153]; exact WD_putA w_I 1 3 kv0 eb149 kb149 rfl rfl (by decide) trivial
              have f_I153 : FR [(1, 3)] Z I Z I153 := by rw [eI153]; exact FR_upA w_I.2.1 kv0 eb149 kb149 rfl rfl List.mem_cons_self
              have q_I153 : FR Ws_X1_goOn Z I0 Z I153 := q_I.trans w0.1 w0.2.1 (f_I153.mono (by decide))
              have u155 : (I153 v0 6).toInt = (I v0 6).toInt := by rw [f_I153.2.2.1 v0 1 6 kv0 (by decide) (by decide)]
              intro b156 eb156
              obtain ⟨x157, ex157, kb156, lb156⟩ := sh_f w_I153.1 kv0 (j := 5) (k := 14) (m := 24) rfl
              cases eb156.symm.trans ex157
              have o158 : vp_in v3 24 := vi_of rfl (by omega) (by omega)
              refine ⟨o158, ?_⟩
              have o159 : vp_in v3 24 := vi_of rfl (by omega) (by omega)
              refine ⟨o159, ?_⟩
              intro I160 eI160
              try (have t161 : ((I153 b156 v3.toNatClampNeg) + (1 : Int32)).toInt = ((I153 b156 v3.toNatClampNeg).toInt + (1)) := (i_add rfl (show (1 : Int32).toInt = 1 from rfl) (by omega) (by omega)))
              have w_I160 : WD Z I160 := by rw [eI160]; exact WD_putA w_I153 1 5 kv0 eb156 kb156 rfl rfl (by decide) trivial
              have f_I160 : FR [(1, 5)] Z I153 Z I160 := by rw [eI160]; exact FR_upA w_I153.2.1 kv0 eb156 kb156 rfl rfl List.mem_cons_self
              have q_I160 : FR Ws_X1_goOn Z I0 Z I160 := q_I153.trans w0.1 w0.2.1 (f_I160.mono (by decide))
              have u162 : (I160 v0 6).toInt = (I153 v0 6).toInt := by rw [f_I160.2.2.1 v0 1 6 kv0 (by decide) (by decide)]
              exact hQ  I160 L w_I160 q_I160 
        · skip
          first | (have t163 : ¬ (v3.toInt < (I v0 6).toInt) := (not_congr (i_lt rfl rfl)).mp c10) | (have t163 : ¬ (v3.toInt < (I v0 6).toInt) := (not_congr (i_lt rfl rfl)).mp c10) | skip
          exact hQ  I L w_I q_I 
    · skip
      first | (have t164 : ¬ (((I v0 6).toInt - (1)) ≤ v3.toInt) := (not_congr (i_le (i_sub rfl (show (1 : Int32).toInt = 1 from rfl) (by omega) (by omega)) rfl)).mp c3) | (have t164 : ¬ (((I v0 6) - (1 : Int32)).toInt ≤ v3.toInt) := (not_congr (i_le rfl rfl)).mp c3) | skip
      intro b165 eb165
      obtain ⟨x166, ex166, kb165, lb165⟩ := sh_f w_I.1 kv0 (j := 1) (k := 15) (m := 6) rfl
      cases eb165.symm.trans ex166
      have o167 : vp_in v1 6 := vi_of rfl (by omega) (by omega)
      refine ⟨o167, ?_⟩
      refine s_X11_treads w_I (L b165 v1.toNatClampNeg) v3    (fun r168  => ?_)
      have rr168 := i_rng r168
      refine ⟨fun c169 => ?_, fun c169 => ?_⟩
      · skip
        first | (have t170 : ¬ (r168.toInt = (0)) := (not_congr (i_eq rfl (show (0 : Int32).toInt = 0 from rfl))).mp c169) | (have t170 : ¬ (r168.toInt = (0 : Int32).toInt) := (not_congr (i_eq rfl rfl)).mp c169) | skip
        unfold f_X1_goOn_b38
        refine ⟨fun c171 => ?_, fun c171 => ?_⟩
        · skip
          first | (have t172 : v3.toInt < (0) := (i_lt rfl (show (0 : Int32).toInt = 0 from rfl)).mp c171) | (have t172 : v3.toInt < (0 : Int32).toInt := (i_lt rfl rfl).mp c171) | skip
          exact hQ  I L w_I q_I 
        · skip
          first | (have t173 : ¬ (v3.toInt < (0)) := (not_congr (i_lt rfl (show (0 : Int32).toInt = 0 from rfl))).mp c171) | (have t173 : ¬ (v3.toInt < (0 : Int32).toInt) := (not_congr (i_lt rfl rfl)).mp c171) | skip
          have t175 : 0 ≤ (I v0 6).toInt ∧ (I v0 6).toInt ≤ 24 := w_I.fld 1 6 kv0 (by decide)
          refine ⟨fun c176 => ?_, fun c176 => ?_⟩
          · skip
            first | (have t177 : v3.toInt < (I v0 6).toInt := (i_lt rfl rfl).mp c176) | (have t177 : v3.toInt < (I v0 6).toInt := (i_lt rfl rfl).mp c176) | skip
            have t179 : 0 ≤ (I v0 6).toInt ∧ (I v0 6).toInt ≤ 24 := w_I.fld 1 6 kv0 (by decide)
            refine ⟨fun c180 => ?_, fun c180 => ?_⟩
            · skip
              first | (have t181 : ((I v0 6).toInt - (1)) ≤ v3.toInt := (i_le (i_sub rfl (show (1 : Int32).toInt = 1 from rfl) (by omega) (by omega)) rfl).mp c180) | (have t181 : ((I v0 6) - (1 : Int32)).toInt ≤ v3.toInt := (i_le rfl rfl).mp c180) | skip
              unfold f_X1_goOn_b92
              intro b182 eb182
              obtain ⟨x183, ex183, kb182, lb182⟩ := sh_f w_I.1 kv0 (j := 2) (k := 14) (m := 6) rfl
              cases eb182.symm.trans ex183
              have o184 : vp_in v1 6 := vi_of rfl (by omega) (by omega)
              refine ⟨o184, ?_⟩
              have t185 : -1 ≤ (I b182 v1.toNatClampNeg).toInt ∧ (I b182 v1.toNatClampNeg).toInt ≤ 23 := w_I.arr 1 2 kv0 eb182 kb182 rfl rfl _
              refine ⟨fun c186 => ?_, fun c186 => ?_⟩
              · skip
                first | (have t187 : (I b182 v1.toNatClampNeg).toInt < (0) := (i_lt rfl (show (0 : Int32).toInt = 0 from rfl)).mp c186) | (have t187 : (I b182 v1.toNatClampNeg).toInt < (0 : Int32).toInt := (i_lt rfl rfl).mp c186) | skip
                unfold f_X1_goOn_b116
                intro b188 eb188
                obtain ⟨x189, ex189, kb188, lb188⟩ := sh_f w_I.1 kv0 (j := 4) (k := 14) (m := 24) rfl
                cases eb188.symm.trans ex189
                have o190 : vp_in v3 24 := vi_of rfl (by omega) (by omega)
                refine ⟨o190, ?_⟩
                have o191 : vp_in v3 24 := vi_of rfl (by omega) (by omega)
                refine ⟨o191, ?_⟩
                intro I192 eI192
                try (have t193 : ((I b188 v3.toNatClampNeg) + (1 : Int32)).toInt = ((I b188 v3.toNatClampNeg).toInt + (1)) := (i_add rfl (show (1 : Int32).toInt = 1 from rfl) (by omega) (by omega)))
                have w_I192 : WD Z I192 := by rw [eI192]; exact WD_putA w_I 1 4 kv0 eb188 kb188 rfl rfl (by decide) trivial
                have f_I192 : FR [(1, 4)] Z I Z I192 := by rw [eI192]; exact FR_upA w_I.2.1 kv0 eb188 kb188 rfl rfl List.mem_cons_self
                have q_I192 : FR Ws_X1_goOn Z I0 Z I192 := q_I.trans w0.1 w0.2.1 (f_I192.mono (by decide))
                have u194 : (I192 v0 6).toInt = (I v0 6).toInt := by rw [f_I192.2.2.1 v0 1 6 kv0 (by decide) (by decide)]
                intro b195 eb195
                obtain rfl : b182 = b195 := Option.some.inj (eb182.symm.trans eb195)
                have o196 : vp_in v1 6 := vi_of rfl (by omega) (by omega)
                refine ⟨o196, ?_⟩
                intro I197 eI197
                have w_I197 : WD Z I197 := by rw [eI197]; exact WD_putA w_I192 1 2 kv0 eb182 kb182 rfl rfl (by decide) (by constructor <;> omega)
                have f_I197 : FR [(1, 2)] Z I192 Z I197 := by rw [eI197]; exact FR_upA w_I192.2.1 kv0 eb182 kb182 rfl rfl List.mem_cons_self
                have q_I197 : FR Ws_X1_goOn Z I0 Z I197 := q_I192.trans w0.1 w0.2.1 (f_I197.mono (by decide))
                have u198 : (I197 v0 6).toInt = (I192 v0 6).toInt := by rw [f_I197.2.2.1 v0 1 6 kv0 (by decide) (by decide)]
                have t200 : 0 ≤ (I197 v0 6).toInt ∧ (I197 v0 6).toInt ≤ 24 := w_I197.fld 1 6 kv0 (by decide)
                refine ⟨fun c201 => ?_, fun c201 => ?_⟩
                · skip
                  first | (have t202 : ¬ (v3.toInt = ((I197 v0 6).toInt - (1))) := (not_congr (i_eq rfl (i_sub rfl (show (1 : Int32).toInt = 1 from rfl) (by omega) (by omega)))).mp c201) | (have t202 : ¬ (v3.toInt = ((I197 v0 6) - (1 : Int32)).toInt) := (not_congr (i_eq rfl rfl)).mp c201) | skip
                  unfold f_X1_goOn_b153
                  intro I203 eI203
                  try (have t204 : ((I197 v0 7) - (0 : Int32)).toInt = ((I197 v0 7).toInt - (0)) := (i_sub rfl (show (0 : Int32).toInt = 0 from rfl) (by omega) (by omega)))
                  have w_I203 : WD Z I203 := by rw [eI203]; exact WD_putF w_I197 1 7 kv0 (by decide) (by decide) trivial
                  have f_I203 : FR [(1, 7)] Z I197 Z I203 := by rw [eI203]; exact FR_putF kv0 (by decide) List.mem_cons_self
                  have q_I203 : FR Ws_X1_goOn Z I0 Z I203 := q_I197.trans w0.1 w0.2.1 (f_I203.mono (by decide))
                  have u205 : (I203 v0 6).toInt = (I197 v0 6).toInt := by rw [f_I203.2.2.1 v0 1 6 kv0 (by decide) (by decide)]
                  first | (have u206 : (I203 v0 7).toInt = ((I197 v0 7).toInt - (0)) := by (rw [eI203, show jpI I197 v0 7 ((I197 v0 7) - (0 : Int32)) v0 7 = ((I197 v0 7) - (0 : Int32)) from jpI_at] <;> exact (i_sub rfl (show (0 : Int32).toInt = 0 from rfl) (by omega) (by omega)))) | skip
                  exact hQ  I203 L w_I203 q_I203 
                · skip
                  first | (have t207 : v3.toInt = ((I197 v0 6).toInt - (1)) := (i_eq rfl (i_sub rfl (show (1 : Int32).toInt = 1 from rfl) (by omega) (by omega))).mp c201) | (have t207 : v3.toInt = ((I197 v0 6) - (1 : Int32)).toInt := (i_eq rfl rfl).mp c201) | skip
                  unfold f_X1_goOn_b153
                  intro I208 eI208
                  try (have t209 : ((I197 v0 7) - (1 : Int32)).toInt = ((I197 v0 7).toInt - (1)) := (i_sub rfl (show (1 : Int32).toInt = 1 from rfl) (by omega) (by omega)))
                  have w_I208 : WD Z I208 := by rw [eI208]; exact WD_putF w_I197 1 7 kv0 (by decide) (by decide) trivial
                  have f_I208 : FR [(1, 7)] Z I197 Z I208 := by rw [eI208]; exact FR_putF kv0 (by decide) List.mem_cons_self
                  have q_I208 : FR Ws_X1_goOn Z I0 Z I208 := q_I197.trans w0.1 w0.2.1 (f_I208.mono (by decide))
                  have u210 : (I208 v0 6).toInt = (I197 v0 6).toInt := by rw [f_I208.2.2.1 v0 1 6 kv0 (by decide) (by decide)]
                  first | (have u211 : (I208 v0 7).toInt = ((I197 v0 7).toInt - (1)) := by (rw [eI208, show jpI I197 v0 7 ((I197 v0 7) - (1 : Int32)) v0 7 = ((I197 v0 7) - (1 : Int32)) from jpI_at] <;> exact (i_sub rfl (show (1 : Int32).toInt = 1 from rfl) (by omega) (by omega)))) | skip
                  exact hQ  I208 L w_I208 q_I208 
              · skip
                first | (have t212 : ¬ ((I b182 v1.toNatClampNeg).toInt < (0)) := (not_congr (i_lt rfl (show (0 : Int32).toInt = 0 from rfl))).mp c186) | (have t212 : ¬ ((I b182 v1.toNatClampNeg).toInt < (0 : Int32).toInt) := (not_congr (i_lt rfl rfl)).mp c186) | skip
                intro b213 eb213
                obtain ⟨x214, ex214, kb213, lb213⟩ := sh_f w_I.1 kv0 (j := 4) (k := 14) (m := 24) rfl
                cases eb213.symm.trans ex214
                intro b215 eb215
                obtain rfl : b182 = b215 := Option.some.inj (eb182.symm.trans eb215)
                have o216 : vp_in v1 6 := vi_of rfl (by omega) (by omega)
                refine ⟨o216, ?_⟩
                have t217 : -1 ≤ (I b182 v1.toNatClampNeg).toInt ∧ (I b182 v1.toNatClampNeg).toInt ≤ 23 := w_I.arr 1 2 kv0 eb182 kb182 rfl rfl _
                have o218 : vp_in (I b182 v1.toNatClampNeg) 24 := vi_of rfl (by omega) (by omega)
                refine ⟨o218, ?_⟩
                have o219 : vp_in (I b182 v1.toNatClampNeg) 24 := vi_of rfl (by omega) (by omega)
                refine ⟨o219, ?_⟩
                intro I220 eI220
                try (have t221 : ((I b213 (I b182 v1.toNatClampNeg).toNatClampNeg) - (1 : Int32)).toInt = ((I b213 (I b182 v1.toNatClampNeg).toNatClampNeg).toInt - (1)) := (i_sub rfl (show (1 : Int32).toInt = 1 from rfl) (by omega) (by omega)))
                have w_I220 : WD Z I220 := by rw [eI220]; exact WD_putA w_I 1 4 kv0 eb213 kb213 rfl rfl (by decide) trivial
                have f_I220 : FR [(1, 4)] Z I Z I220 := by rw [eI220]; exact FR_upA w_I.2.1 kv0 eb213 kb213 rfl rfl List.mem_cons_self
                have q_I220 : FR Ws_X1_goOn Z I0 Z I220 := q_I.trans w0.1 w0.2.1 (f_I220.mono (by decide))
                have u222 : (I220 v0 6).toInt = (I v0 6).toInt := by rw [f_I220.2.2.1 v0 1 6 kv0 (by decide) (by decide)]
                unfold f_X1_goOn_b116
                intro b223 eb223
                obtain rfl : b213 = b223 := Option.some.inj (eb213.symm.trans eb223)
                have o224 : vp_in v3 24 := vi_of rfl (by omega) (by omega)
                refine ⟨o224, ?_⟩
                have o225 : vp_in v3 24 := vi_of rfl (by omega) (by omega)
                refine ⟨o225, ?_⟩
                intro I226 eI226
                try (have t227 : ((I220 b213 v3.toNatClampNeg) + (1 : Int32)).toInt = ((I220 b213 v3.toNatClampNeg).toInt + (1)) := (i_add rfl (show (1 : Int32).toInt = 1 from rfl) (by omega) (by omega)))
                have w_I226 : WD Z I226 := by rw [eI226]; exact WD_putA w_I220 1 4 kv0 eb213 kb213 rfl rfl (by decide) trivial
                have f_I226 : FR [(1, 4)] Z I220 Z I226 := by rw [eI226]; exact FR_upA w_I220.2.1 kv0 eb213 kb213 rfl rfl List.mem_cons_self
                have q_I226 : FR Ws_X1_goOn Z I0 Z I226 := q_I220.trans w0.1 w0.2.1 (f_I226.mono (by decide))
                have u228 : (I226 v0 6).toInt = (I220 v0 6).toInt := by rw [f_I226.2.2.1 v0 1 6 kv0 (by decide) (by decide)]
                intro b229 eb229
                obtain rfl : b182 = b229 := Option.some.inj (eb182.symm.trans eb229)
                have o230 : vp_in v1 6 := vi_of rfl (by omega) (by omega)
                refine ⟨o230, ?_⟩
                intro I231 eI231
                have w_I231 : WD Z I231 := by rw [eI231]; exact WD_putA w_I226 1 2 kv0 eb182 kb182 rfl rfl (by decide) (by constructor <;> omega)
                have f_I231 : FR [(1, 2)] Z I226 Z I231 := by rw [eI231]; exact FR_upA w_I226.2.1 kv0 eb182 kb182 rfl rfl List.mem_cons_self
                have q_I231 : FR Ws_X1_goOn Z I0 Z I231 := q_I226.trans w0.1 w0.2.1 (f_I231.mono (by decide))
                have u232 : (I231 v0 6).toInt = (I226 v0 6).toInt := by rw [f_I231.2.2.1 v0 1 6 kv0 (by decide) (by decide)]
                have t234 : 0 ≤ (I231 v0 6).toInt ∧ (I231 v0 6).toInt ≤ 24 := w_I231.fld 1 6 kv0 (by decide)
                refine ⟨fun c235 => ?_, fun c235 => ?_⟩
                · skip
                  first | (have t236 : ¬ (v3.toInt = ((I231 v0 6).toInt - (1))) := (not_congr (i_eq rfl (i_sub rfl (show (1 : Int32).toInt = 1 from rfl) (by omega) (by omega)))).mp c235) | (have t236 : ¬ (v3.toInt = ((I231 v0 6) - (1 : Int32)).toInt) := (not_congr (i_eq rfl rfl)).mp c235) | skip
                  unfold f_X1_goOn_b153
                  intro I237 eI237
                  try (have t238 : ((I231 v0 7) - (0 : Int32)).toInt = ((I231 v0 7).toInt - (0)) := (i_sub rfl (show (0 : Int32).toInt = 0 from rfl) (by omega) (by omega)))
                  have w_I237 : WD Z I237 := by rw [eI237]; exact WD_putF w_I231 1 7 kv0 (by decide) (by decide) trivial
                  have f_I237 : FR [(1, 7)] Z I231 Z I237 := by rw [eI237]; exact FR_putF kv0 (by decide) List.mem_cons_self
                  have q_I237 : FR Ws_X1_goOn Z I0 Z I237 := q_I231.trans w0.1 w0.2.1 (f_I237.mono (by decide))
                  have u239 : (I237 v0 6).toInt = (I231 v0 6).toInt := by rw [f_I237.2.2.1 v0 1 6 kv0 (by decide) (by decide)]
                  first | (have u240 : (I237 v0 7).toInt = ((I231 v0 7).toInt - (0)) := by (rw [eI237, show jpI I231 v0 7 ((I231 v0 7) - (0 : Int32)) v0 7 = ((I231 v0 7) - (0 : Int32)) from jpI_at] <;> exact (i_sub rfl (show (0 : Int32).toInt = 0 from rfl) (by omega) (by omega)))) | skip
                  exact hQ  I237 L w_I237 q_I237 
                · skip
                  first | (have t241 : v3.toInt = ((I231 v0 6).toInt - (1)) := (i_eq rfl (i_sub rfl (show (1 : Int32).toInt = 1 from rfl) (by omega) (by omega))).mp c235) | (have t241 : v3.toInt = ((I231 v0 6) - (1 : Int32)).toInt := (i_eq rfl rfl).mp c235) | skip
                  unfold f_X1_goOn_b153
                  intro I242 eI242
                  try (have t243 : ((I231 v0 7) - (1 : Int32)).toInt = ((I231 v0 7).toInt - (1)) := (i_sub rfl (show (1 : Int32).toInt = 1 from rfl) (by omega) (by omega)))
                  have w_I242 : WD Z I242 := by rw [eI242]; exact WD_putF w_I231 1 7 kv0 (by decide) (by decide) trivial
                  have f_I242 : FR [(1, 7)] Z I231 Z I242 := by rw [eI242]; exact FR_putF kv0 (by decide) List.mem_cons_self
                  have q_I242 : FR Ws_X1_goOn Z I0 Z I242 := q_I231.trans w0.1 w0.2.1 (f_I242.mono (by decide))
                  have u244 : (I242 v0 6).toInt = (I231 v0 6).toInt := by rw [f_I242.2.2.1 v0 1 6 kv0 (by decide) (by decide)]
                  first | (have u245 : (I242 v0 7).toInt = ((I231 v0 7).toInt - (1)) := by (rw [eI242, show jpI I231 v0 7 ((I231 v0 7) - (1 : Int32)) v0 7 = ((I231 v0 7) - (1 : Int32)) from jpI_at] <;> exact (i_sub rfl (show (1 : Int32).toInt = 1 from rfl) (by omega) (by omega)))) | skip
                  exact hQ  I242 L w_I242 q_I242 
            · skip
              first | (have t246 : ¬ (((I v0 6).toInt - (1)) ≤ v3.toInt) := (not_congr (i_le (i_sub rfl (show (1 : Int32).toInt = 1 from rfl) (by omega) (by omega)) rfl)).mp c180) | (have t246 : ¬ (((I v0 6) - (1 : Int32)).toInt ≤ v3.toInt) := (not_congr (i_le rfl rfl)).mp c180) | skip
              intro b247 eb247
              obtain ⟨x248, ex248, kb247, lb247⟩ := sh_f w_I.1 kv0 (j := 4) (k := 14) (m := 24) rfl
              cases eb247.symm.trans ex248
              have o249 : vp_in v3 24 := vi_of rfl (by omega) (by omega)
              refine ⟨o249, ?_⟩
              refine ⟨fun c250 => ?_, fun c250 => ?_⟩
              · skip
                first | (have t251 : (I b247 v3.toNatClampNeg).toInt < v2.toInt := (i_lt rfl rfl).mp c250) | (have t251 : (I b247 v3.toNatClampNeg).toInt < v2.toInt := (i_lt rfl rfl).mp c250) | skip
                unfold f_X1_goOn_b92
                intro b252 eb252
                obtain ⟨x253, ex253, kb252, lb252⟩ := sh_f w_I.1 kv0 (j := 2) (k := 14) (m := 6) rfl
                cases eb252.symm.trans ex253
                have o254 : vp_in v1 6 := vi_of rfl (by omega) (by omega)
                refine ⟨o254, ?_⟩
                have t255 : -1 ≤ (I b252 v1.toNatClampNeg).toInt ∧ (I b252 v1.toNatClampNeg).toInt ≤ 23 := w_I.arr 1 2 kv0 eb252 kb252 rfl rfl _
                refine ⟨fun c256 => ?_, fun c256 => ?_⟩
                · skip
                  first | (have t257 : (I b252 v1.toNatClampNeg).toInt < (0) := (i_lt rfl (show (0 : Int32).toInt = 0 from rfl)).mp c256) | (have t257 : (I b252 v1.toNatClampNeg).toInt < (0 : Int32).toInt := (i_lt rfl rfl).mp c256) | skip
                  unfold f_X1_goOn_b116
                  intro b258 eb258
                  obtain rfl : b247 = b258 := Option.some.inj (eb247.symm.trans eb258)
                  have o259 : vp_in v3 24 := vi_of rfl (by omega) (by omega)
                  refine ⟨o259, ?_⟩
                  have o260 : vp_in v3 24 := vi_of rfl (by omega) (by omega)
                  refine ⟨o260, ?_⟩
                  intro I261 eI261
                  try (have t262 : ((I b247 v3.toNatClampNeg) + (1 : Int32)).toInt = ((I b247 v3.toNatClampNeg).toInt + (1)) := (i_add rfl (show (1 : Int32).toInt = 1 from rfl) (by omega) (by omega)))
                  have w_I261 : WD Z I261 := by rw [eI261]; exact WD_putA w_I 1 4 kv0 eb247 kb247 rfl rfl (by decide) trivial
                  have f_I261 : FR [(1, 4)] Z I Z I261 := by rw [eI261]; exact FR_upA w_I.2.1 kv0 eb247 kb247 rfl rfl List.mem_cons_self
                  have q_I261 : FR Ws_X1_goOn Z I0 Z I261 := q_I.trans w0.1 w0.2.1 (f_I261.mono (by decide))
                  have u263 : (I261 v0 6).toInt = (I v0 6).toInt := by rw [f_I261.2.2.1 v0 1 6 kv0 (by decide) (by decide)]
                  intro b264 eb264
                  obtain rfl : b252 = b264 := Option.some.inj (eb252.symm.trans eb264)
                  have o265 : vp_in v1 6 := vi_of rfl (by omega) (by omega)
                  refine ⟨o265, ?_⟩
                  intro I266 eI266
                  have w_I266 : WD Z I266 := by rw [eI266]; exact WD_putA w_I261 1 2 kv0 eb252 kb252 rfl rfl (by decide) (by constructor <;> omega)
                  have f_I266 : FR [(1, 2)] Z I261 Z I266 := by rw [eI266]; exact FR_upA w_I261.2.1 kv0 eb252 kb252 rfl rfl List.mem_cons_self
                  have q_I266 : FR Ws_X1_goOn Z I0 Z I266 := q_I261.trans w0.1 w0.2.1 (f_I266.mono (by decide))
                  have u267 : (I266 v0 6).toInt = (I261 v0 6).toInt := by rw [f_I266.2.2.1 v0 1 6 kv0 (by decide) (by decide)]
                  have t269 : 0 ≤ (I266 v0 6).toInt ∧ (I266 v0 6).toInt ≤ 24 := w_I266.fld 1 6 kv0 (by decide)
                  refine ⟨fun c270 => ?_, fun c270 => ?_⟩
                  · skip
                    first | (have t271 : ¬ (v3.toInt = ((I266 v0 6).toInt - (1))) := (not_congr (i_eq rfl (i_sub rfl (show (1 : Int32).toInt = 1 from rfl) (by omega) (by omega)))).mp c270) | (have t271 : ¬ (v3.toInt = ((I266 v0 6) - (1 : Int32)).toInt) := (not_congr (i_eq rfl rfl)).mp c270) | skip
                    unfold f_X1_goOn_b153
                    intro I272 eI272
                    try (have t273 : ((I266 v0 7) - (0 : Int32)).toInt = ((I266 v0 7).toInt - (0)) := (i_sub rfl (show (0 : Int32).toInt = 0 from rfl) (by omega) (by omega)))
                    have w_I272 : WD Z I272 := by rw [eI272]; exact WD_putF w_I266 1 7 kv0 (by decide) (by decide) trivial
                    have f_I272 : FR [(1, 7)] Z I266 Z I272 := by rw [eI272]; exact FR_putF kv0 (by decide) List.mem_cons_self
                    have q_I272 : FR Ws_X1_goOn Z I0 Z I272 := q_I266.trans w0.1 w0.2.1 (f_I272.mono (by decide))
                    have u274 : (I272 v0 6).toInt = (I266 v0 6).toInt := by rw [f_I272.2.2.1 v0 1 6 kv0 (by decide) (by decide)]
                    first | (have u275 : (I272 v0 7).toInt = ((I266 v0 7).toInt - (0)) := by (rw [eI272, show jpI I266 v0 7 ((I266 v0 7) - (0 : Int32)) v0 7 = ((I266 v0 7) - (0 : Int32)) from jpI_at] <;> exact (i_sub rfl (show (0 : Int32).toInt = 0 from rfl) (by omega) (by omega)))) | skip
                    exact hQ  I272 L w_I272 q_I272 
                  · skip
                    first | (have t276 : v3.toInt = ((I266 v0 6).toInt - (1)) := (i_eq rfl (i_sub rfl (show (1 : Int32).toInt = 1 from rfl) (by omega) (by omega))).mp c270) | (have t276 : v3.toInt = ((I266 v0 6) - (1 : Int32)).toInt := (i_eq rfl rfl).mp c270) | skip
                    unfold f_X1_goOn_b153
                    intro I277 eI277
                    try (have t278 : ((I266 v0 7) - (1 : Int32)).toInt = ((I266 v0 7).toInt - (1)) := (i_sub rfl (show (1 : Int32).toInt = 1 from rfl) (by omega) (by omega)))
                    have w_I277 : WD Z I277 := by rw [eI277]; exact WD_putF w_I266 1 7 kv0 (by decide) (by decide) trivial
                    have f_I277 : FR [(1, 7)] Z I266 Z I277 := by rw [eI277]; exact FR_putF kv0 (by decide) List.mem_cons_self
                    have q_I277 : FR Ws_X1_goOn Z I0 Z I277 := q_I266.trans w0.1 w0.2.1 (f_I277.mono (by decide))
                    have u279 : (I277 v0 6).toInt = (I266 v0 6).toInt := by rw [f_I277.2.2.1 v0 1 6 kv0 (by decide) (by decide)]
                    first | (have u280 : (I277 v0 7).toInt = ((I266 v0 7).toInt - (1)) := by (rw [eI277, show jpI I266 v0 7 ((I266 v0 7) - (1 : Int32)) v0 7 = ((I266 v0 7) - (1 : Int32)) from jpI_at] <;> exact (i_sub rfl (show (1 : Int32).toInt = 1 from rfl) (by omega) (by omega)))) | skip
                    exact hQ  I277 L w_I277 q_I277 
                · skip
                  first | (have t281 : ¬ ((I b252 v1.toNatClampNeg).toInt < (0)) := (not_congr (i_lt rfl (show (0 : Int32).toInt = 0 from rfl))).mp c256) | (have t281 : ¬ ((I b252 v1.toNatClampNeg).toInt < (0 : Int32).toInt) := (not_congr (i_lt rfl rfl)).mp c256) | skip
                  intro b282 eb282
                  obtain rfl : b247 = b282 := Option.some.inj (eb247.symm.trans eb282)
                  intro b283 eb283
                  obtain rfl : b252 = b283 := Option.some.inj (eb252.symm.trans eb283)
                  have o284 : vp_in v1 6 := vi_of rfl (by omega) (by omega)
                  refine ⟨o284, ?_⟩
                  have t285 : -1 ≤ (I b252 v1.toNatClampNeg).toInt ∧ (I b252 v1.toNatClampNeg).toInt ≤ 23 := w_I.arr 1 2 kv0 eb252 kb252 rfl rfl _
                  have o286 : vp_in (I b252 v1.toNatClampNeg) 24 := vi_of rfl (by omega) (by omega)
                  refine ⟨o286, ?_⟩
                  have o287 : vp_in (I b252 v1.toNatClampNeg) 24 := vi_of rfl (by omega) (by omega)
                  refine ⟨o287, ?_⟩
                  intro I288 eI288
                  try (have t289 : ((I b247 (I b252 v1.toNatClampNeg).toNatClampNeg) - (1 : Int32)).toInt = ((I b247 (I b252 v1.toNatClampNeg).toNatClampNeg).toInt - (1)) := (i_sub rfl (show (1 : Int32).toInt = 1 from rfl) (by omega) (by omega)))
                  have w_I288 : WD Z I288 := by rw [eI288]; exact WD_putA w_I 1 4 kv0 eb247 kb247 rfl rfl (by decide) trivial
                  have f_I288 : FR [(1, 4)] Z I Z I288 := by rw [eI288]; exact FR_upA w_I.2.1 kv0 eb247 kb247 rfl rfl List.mem_cons_self
                  have q_I288 : FR Ws_X1_goOn Z I0 Z I288 := q_I.trans w0.1 w0.2.1 (f_I288.mono (by decide))
                  have u290 : (I288 v0 6).toInt = (I v0 6).toInt := by rw [f_I288.2.2.1 v0 1 6 kv0 (by decide) (by decide)]
                  unfold f_X1_goOn_b116
                  intro b291 eb291
                  obtain rfl : b247 = b291 := Option.some.inj (eb247.symm.trans eb291)
                  have o292 : vp_in v3 24 := vi_of rfl (by omega) (by omega)
                  refine ⟨o292, ?_⟩
                  have o293 : vp_in v3 24 := vi_of rfl (by omega) (by omega)
                  refine ⟨o293, ?_⟩
                  intro I294 eI294
                  try (have t295 : ((I288 b247 v3.toNatClampNeg) + (1 : Int32)).toInt = ((I288 b247 v3.toNatClampNeg).toInt + (1)) := (i_add rfl (show (1 : Int32).toInt = 1 from rfl) (by omega) (by omega)))
                  have w_I294 : WD Z I294 := by rw [eI294]; exact WD_putA w_I288 1 4 kv0 eb247 kb247 rfl rfl (by decide) trivial
                  have f_I294 : FR [(1, 4)] Z I288 Z I294 := by rw [eI294]; exact FR_upA w_I288.2.1 kv0 eb247 kb247 rfl rfl List.mem_cons_self
                  have q_I294 : FR Ws_X1_goOn Z I0 Z I294 := q_I288.trans w0.1 w0.2.1 (f_I294.mono (by decide))
                  have u296 : (I294 v0 6).toInt = (I288 v0 6).toInt := by rw [f_I294.2.2.1 v0 1 6 kv0 (by decide) (by decide)]
                  intro b297 eb297
                  obtain rfl : b252 = b297 := Option.some.inj (eb252.symm.trans eb297)
                  have o298 : vp_in v1 6 := vi_of rfl (by omega) (by omega)
                  refine ⟨o298, ?_⟩
                  intro I299 eI299
                  have w_I299 : WD Z I299 := by rw [eI299]; exact WD_putA w_I294 1 2 kv0 eb252 kb252 rfl rfl (by decide) (by constructor <;> omega)
                  have f_I299 : FR [(1, 2)] Z I294 Z I299 := by rw [eI299]; exact FR_upA w_I294.2.1 kv0 eb252 kb252 rfl rfl List.mem_cons_self
                  have q_I299 : FR Ws_X1_goOn Z I0 Z I299 := q_I294.trans w0.1 w0.2.1 (f_I299.mono (by decide))
                  have u300 : (I299 v0 6).toInt = (I294 v0 6).toInt := by rw [f_I299.2.2.1 v0 1 6 kv0 (by decide) (by decide)]
                  have t302 : 0 ≤ (I299 v0 6).toInt ∧ (I299 v0 6).toInt ≤ 24 := w_I299.fld 1 6 kv0 (by decide)
                  refine ⟨fun c303 => ?_, fun c303 => ?_⟩
                  · skip
                    first | (have t304 : ¬ (v3.toInt = ((I299 v0 6).toInt - (1))) := (not_congr (i_eq rfl (i_sub rfl (show (1 : Int32).toInt = 1 from rfl) (by omega) (by omega)))).mp c303) | (have t304 : ¬ (v3.toInt = ((I299 v0 6) - (1 : Int32)).toInt) := (not_congr (i_eq rfl rfl)).mp c303) | skip
                    unfold f_X1_goOn_b153
                    intro I305 eI305
                    try (have t306 : ((I299 v0 7) - (0 : Int32)).toInt = ((I299 v0 7).toInt - (0)) := (i_sub rfl (show (0 : Int32).toInt = 0 from rfl) (by omega) (by omega)))
                    have w_I305 : WD Z I305 := by rw [eI305]; exact WD_putF w_I299 1 7 kv0 (by decide) (by decide) trivial
                    have f_I305 : FR [(1, 7)] Z I299 Z I305 := by rw [eI305]; exact FR_putF kv0 (by decide) List.mem_cons_self
                    have q_I305 : FR Ws_X1_goOn Z I0 Z I305 := q_I299.trans w0.1 w0.2.1 (f_I305.mono (by decide))
                    have u307 : (I305 v0 6).toInt = (I299 v0 6).toInt := by rw [f_I305.2.2.1 v0 1 6 kv0 (by decide) (by decide)]
                    first | (have u308 : (I305 v0 7).toInt = ((I299 v0 7).toInt - (0)) := by (rw [eI305, show jpI I299 v0 7 ((I299 v0 7) - (0 : Int32)) v0 7 = ((I299 v0 7) - (0 : Int32)) from jpI_at] <;> exact (i_sub rfl (show (0 : Int32).toInt = 0 from rfl) (by omega) (by omega)))) | skip
                    exact hQ  I305 L w_I305 q_I305 
                  · skip
                    first | (have t309 : v3.toInt = ((I299 v0 6).toInt - (1)) := (i_eq rfl (i_sub rfl (show (1 : Int32).toInt = 1 from rfl) (by omega) (by omega))).mp c303) | (have t309 : v3.toInt = ((I299 v0 6) - (1 : Int32)).toInt := (i_eq rfl rfl).mp c303) | skip
                    unfold f_X1_goOn_b153
                    intro I310 eI310
                    try (have t311 : ((I299 v0 7) - (1 : Int32)).toInt = ((I299 v0 7).toInt - (1)) := (i_sub rfl (show (1 : Int32).toInt = 1 from rfl) (by omega) (by omega)))
                    have w_I310 : WD Z I310 := by rw [eI310]; exact WD_putF w_I299 1 7 kv0 (by decide) (by decide) trivial
                    have f_I310 : FR [(1, 7)] Z I299 Z I310 := by rw [eI310]; exact FR_putF kv0 (by decide) List.mem_cons_self
                    have q_I310 : FR Ws_X1_goOn Z I0 Z I310 := q_I299.trans w0.1 w0.2.1 (f_I310.mono (by decide))
                    have u312 : (I310 v0 6).toInt = (I299 v0 6).toInt := by rw [f_I310.2.2.1 v0 1 6 kv0 (by decide) (by decide)]
                    first | (have u313 : (I310 v0 7).toInt = ((I299 v0 7).toInt - (1)) := by (rw [eI310, show jpI I299 v0 7 ((I299 v0 7) - (1 : Int32)) v0 7 = ((I299 v0 7) - (1 : Int32)) from jpI_at] <;> exact (i_sub rfl (show (1 : Int32).toInt = 1 from rfl) (by omega) (by omega)))) | skip
                    exact hQ  I310 L w_I310 q_I310 
              · skip
                first | (have t314 : ¬ ((I b247 v3.toNatClampNeg).toInt < v2.toInt) := (not_congr (i_lt rfl rfl)).mp c250) | (have t314 : ¬ ((I b247 v3.toNatClampNeg).toInt < v2.toInt) := (not_congr (i_lt rfl rfl)).mp c250) | skip
                intro b315 eb315
                obtain ⟨x316, ex316, kb315, lb315⟩ := sh_f w_I.1 kv0 (j := 3) (k := 14) (m := 6) rfl
                cases eb315.symm.trans ex316
                have o317 : vp_in v1 6 := vi_of rfl (by omega) (by omega)
                refine ⟨o317, ?_⟩
                have o318 : vp_in v1 6 := vi_of rfl (by omega) (by omega)
                refine ⟨o318, ?_⟩
                intro I319 eI319
                try (have t320 : ((I b315 v1.toNatClampNeg) + (1 : Int32)).toInt = ((I b315 v1.toNatClampNeg).toInt + (1)) := (i_add rfl (show (1 : Int32).toInt = 1 from rfl) (by omega) (by omega)))
                have w_I319 : WD Z I319 := by rw [eI319]; exact WD_putA w_I 1 3 kv0 eb315 kb315 rfl rfl (by decide) trivial
                have f_I319 : FR [(1, 3)] Z I Z I319 := by rw [eI319]; exact FR_upA w_I.2.1 kv0 eb315 kb315 rfl rfl List.mem_cons_self
                have q_I319 : FR Ws_X1_goOn Z I0 Z I319 := q_I.trans w0.1 w0.2.1 (f_I319.mono (by decide))
                have u321 : (I319 v0 6).toInt = (I v0 6).toInt := by rw [f_I319.2.2.1 v0 1 6 kv0 (by decide) (by decide)]
                intro b322 eb322
                obtain ⟨x323, ex323, kb322, lb322⟩ := sh_f w_I319.1 kv0 (j := 5) (k := 14) (m := 24) rfl
                cases eb322.symm.trans ex323
                have o324 : vp_in v3 24 := vi_of rfl (by omega) (by omega)
                refine ⟨o324, ?_⟩
                have o325 : vp_in v3 24 := vi_of rfl (by omega) (by omega)
                refine ⟨o325, ?_⟩
                intro I326 eI326
                try (have t327 : ((I319 b322 v3.toNatClampNeg) + (1 : Int32)).toInt = ((I319 b322 v3.toNatClampNeg).toInt + (1)) := (i_add rfl (show (1 : Int32).toInt = 1 from rfl) (by omega) (by omega)))
                have w_I326 : WD Z I326 := by rw [eI326]; exact WD_putA w_I319 1 5 kv0 eb322 kb322 rfl rfl (by decide) trivial
                have f_I326 : FR [(1, 5)] Z I319 Z I326 := by rw [eI326]; exact FR_upA w_I319.2.1 kv0 eb322 kb322 rfl rfl List.mem_cons_self
                have q_I326 : FR Ws_X1_goOn Z I0 Z I326 := q_I319.trans w0.1 w0.2.1 (f_I326.mono (by decide))
                have u328 : (I326 v0 6).toInt = (I319 v0 6).toInt := by rw [f_I326.2.2.1 v0 1 6 kv0 (by decide) (by decide)]
                exact hQ  I326 L w_I326 q_I326 
          · skip
            first | (have t329 : ¬ (v3.toInt < (I v0 6).toInt) := (not_congr (i_lt rfl rfl)).mp c176) | (have t329 : ¬ (v3.toInt < (I v0 6).toInt) := (not_congr (i_lt rfl rfl)).mp c176) | skip
            exact hQ  I L w_I q_I 
      · skip
        first | (have t330 : r168.toInt = (0) := (i_eq rfl (show (0 : Int32).toInt = 0 from rfl)).mp c169) | (have t330 : r168.toInt = (0 : Int32).toInt := (i_eq rfl rfl).mp c169) | skip
        intro x331 ex331
        have rx331 := i_rng x331
        first | (have tx331 : x331.toInt = v3.toInt + (1) := by (rw [ex331]; exact (i_add rfl (show (1 : Int32).toInt = 1 from rfl) (by omega) (by omega)))) | skip
        exact ih x331 I L w_I q_I   (by omega)  (by omega)
set_option maxHeartbeats 4000000 in
set_option maxRecDepth 100000 in
theorem s_X1_goOn {Z : jZ} {I : jI} {L : jL} (w_I : WD Z I) (v0 : Nat) (v1 : Int32) (v2 : Int32) (kv0 : jk Z v0 1) (p0 : 0 ≤ v1.toInt ∧ v1.toInt ≤ 5) {Q : jI → jL → Prop} (hQ : ∀  (I' : jI) (L' : jL), WD Z I' → FR Ws_X1_goOn Z I Z I' → Q I' L') : f_X1_goOn v0 v1 v2 Z I L Q := by
  unfold f_X1_goOn
  have q_I : FR Ws_X1_goOn Z I Z I := FR.rf
  have rv1 := i_rng v1
  have rv2 := i_rng v2
  intro b332 eb332
  obtain ⟨x333, ex333, kb332, lb332⟩ := sh_f w_I.1 kv0 (j := 2) (k := 14) (m := 6) rfl
  cases eb332.symm.trans ex333
  have o334 : vp_in v1 6 := vi_of rfl (by omega) (by omega)
  refine ⟨o334, ?_⟩
  have t335 : -1 ≤ (I b332 v1.toNatClampNeg).toInt ∧ (I b332 v1.toNatClampNeg).toInt ≤ 23 := w_I.arr 1 2 kv0 eb332 kb332 rfl rfl _
  intro x336 ex336
  have rx336 := i_rng x336
  first | (have tx336 : x336.toInt = ((I b332 v1.toNatClampNeg).toInt + (1)) := by (rw [ex336]; exact (i_add rfl (show (1 : Int32).toInt = 1 from rfl) (by omega) (by omega)))) | (have tx336 : x336.toInt = ((I b332 v1.toNatClampNeg) + (1 : Int32)).toInt := by rw [ex336])
  exact ⟨(24 - x336.toInt).toNat + 1, l_X1_goOn_L9 w_I v0 v1 v2 kv0 p0   hQ   _ x336 I L w_I q_I   (by omega)  (by omega)⟩
def Ws_X1_passMinute : List (Nat × Nat) := [(1, 2), (1, 3), (1, 4), (1, 5), (1, 7)]
set_option maxHeartbeats 4000000 in
set_option maxRecDepth 100000 in
theorem l_X1_passMinute_L14 {Z : jZ} {I0 : jI} {Q : jI → jL → Prop} (w0 : WD Z I0) (v0 : Nat) (v1 : Int32) (kv0 : jk Z v0 1) (v2 : Int32) (hQ : ∀  (I' : jI) (L' : jL), WD Z I' → FR Ws_X1_passMinute Z I0 Z I' → Q I' L') {K7 : Nat → Int32 → Int32 → jI → jL → Prop} {N7 : Int} (hK7 : ∀ (v2 : Int32) (I : jI) (L : jL), WD Z I → FR Ws_X1_passMinute Z I0 Z I →   (-2 ≤ v2.toInt ∧ v2.toInt ≤ 22) → v2.toInt + 2 < N7 → K7 v0 v1 v2 I L) : ∀ (n : Nat) (v3 : Int32) (I : jI) (L : jL), WD Z I → FR Ws_X1_passMinute Z I0 Z I →   (-1 ≤ v2.toInt ∧ v2.toInt ≤ 22 ∧ 0 ≤ v3.toInt ∧ v3.toInt ≤ 6) → v2.toInt + 2 ≤ N7 → 6 - v3.toInt < (n : Int) → f_X1_passMinute_L14 K7 Z Q n v0 v1 v2 v3 I L := by
  intro n
  induction n with
  | zero =>
    intro v3 I L w_I q_I   li hm7 me
    exfalso
    omega
  | succ n ih =>
    intro v3 I L w_I q_I   li hm7 me
    unfold f_X1_passMinute_L14
    have rv3 := i_rng v3
    have rv2 := i_rng v2
    have rv1 := i_rng v1
    refine ⟨fun c1 => ?_, fun c1 => ?_⟩
    · skip
      first | (have t2 : (6) ≤ v3.toInt := (i_le (show (6 : Int32).toInt = 6 from rfl) rfl).mp c1) | (have t2 : (6 : Int32).toInt ≤ v3.toInt := (i_le rfl rfl).mp c1) | skip
      intro x3 ex3
      have rx3 := i_rng x3
      first | (have tx3 : x3.toInt = v2.toInt + (-1) := by (rw [ex3]; exact (i_add rfl (show (-1 : Int32).toInt = -1 from rfl) (by omega) (by omega)))) | skip
      exact hK7 x3 I L w_I q_I   (by omega)  (by omega)
    · skip
      first | (have t4 : ¬ ((6) ≤ v3.toInt) := (not_congr (i_le (show (6 : Int32).toInt = 6 from rfl) rfl)).mp c1) | (have t4 : ¬ ((6 : Int32).toInt ≤ v3.toInt) := (not_congr (i_le rfl rfl)).mp c1) | skip
      intro b5 eb5
      obtain ⟨x6, ex6, kb5, lb5⟩ := sh_f w_I.1 kv0 (j := 0) (k := 16) (m := 6) rfl
      cases eb5.symm.trans ex6
      have o7 : vp_in v3 6 := vi_of rfl (by omega) (by omega)
      refine ⟨o7, ?_⟩
      refine ⟨fun c8 => ?_, fun c8 => ?_⟩
      · skip
        first | (have t9 : (I b5 v3.toNatClampNeg).toInt = (0) := (i_eq rfl (show (0 : Int32).toInt = 0 from rfl)).mp c8) | (have t9 : (I b5 v3.toNatClampNeg).toInt = (0 : Int32).toInt := (i_eq rfl rfl).mp c8) | skip
        unfold f_X1_passMinute_b45
        intro x10 ex10
        have rx10 := i_rng x10
        first | (have tx10 : x10.toInt = v3.toInt + (1) := by (rw [ex10]; exact (i_add rfl (show (1 : Int32).toInt = 1 from rfl) (by omega) (by omega)))) | skip
        exact ih x10 I L w_I q_I   (by omega) (by omega) (by omega)
      · skip
        first | (have t11 : ¬ ((I b5 v3.toNatClampNeg).toInt = (0)) := (not_congr (i_eq rfl (show (0 : Int32).toInt = 0 from rfl))).mp c8) | (have t11 : ¬ ((I b5 v3.toNatClampNeg).toInt = (0 : Int32).toInt) := (not_congr (i_eq rfl rfl)).mp c8) | skip
        intro b12 eb12
        obtain ⟨x13, ex13, kb12, lb12⟩ := sh_f w_I.1 kv0 (j := 2) (k := 14) (m := 6) rfl
        cases eb12.symm.trans ex13
        have o14 : vp_in v3 6 := vi_of rfl (by omega) (by omega)
        refine ⟨o14, ?_⟩
        have t15 : -1 ≤ (I b12 v3.toNatClampNeg).toInt ∧ (I b12 v3.toNatClampNeg).toInt ≤ 23 := w_I.arr 1 2 kv0 eb12 kb12 rfl rfl _
        refine ⟨fun c16 => ?_, fun c16 => ?_⟩
        · skip
          first | (have t17 : ¬ ((I b12 v3.toNatClampNeg).toInt = v2.toInt) := (not_congr (i_eq rfl rfl)).mp c16) | (have t17 : ¬ ((I b12 v3.toNatClampNeg).toInt = v2.toInt) := (not_congr (i_eq rfl rfl)).mp c16) | skip
          unfold f_X1_passMinute_b45
          intro x18 ex18
          have rx18 := i_rng x18
          first | (have tx18 : x18.toInt = v3.toInt + (1) := by (rw [ex18]; exact (i_add rfl (show (1 : Int32).toInt = 1 from rfl) (by omega) (by omega)))) | skip
          exact ih x18 I L w_I q_I   (by omega) (by omega) (by omega)
        · skip
          first | (have t19 : (I b12 v3.toNatClampNeg).toInt = v2.toInt := (i_eq rfl rfl).mp c16) | (have t19 : (I b12 v3.toNatClampNeg).toInt = v2.toInt := (i_eq rfl rfl).mp c16) | skip
          refine s_X1_goOn w_I v0 v3 v1 kv0  (by omega) (fun  I20 L21 w_I20 f_I20  => ?_)
          have q_I20 : FR Ws_X1_passMinute Z I0 Z I20 := q_I.trans w0.1 w0.2.1 (f_I20.mono (by decide))
          unfold f_X1_passMinute_b45
          intro x22 ex22
          have rx22 := i_rng x22
          first | (have tx22 : x22.toInt = v3.toInt + (1) := by (rw [ex22]; exact (i_add rfl (show (1 : Int32).toInt = 1 from rfl) (by omega) (by omega)))) | skip
          exact ih x22 I20 L21 w_I20 q_I20   (by omega) (by omega) (by omega)
set_option maxHeartbeats 4000000 in
set_option maxRecDepth 100000 in
theorem l_X1_passMinute_L7 {Z : jZ} {I0 : jI} {Q : jI → jL → Prop} (w0 : WD Z I0) (v0 : Nat) (v1 : Int32) (kv0 : jk Z v0 1) (hQ : ∀  (I' : jI) (L' : jL), WD Z I' → FR Ws_X1_passMinute Z I0 Z I' → Q I' L') : ∀ (n : Nat) (v2 : Int32) (I : jI) (L : jL), WD Z I → FR Ws_X1_passMinute Z I0 Z I →   (-2 ≤ v2.toInt ∧ v2.toInt ≤ 22) → v2.toInt + 2 < (n : Int) → f_X1_passMinute_L7  Z Q n v0 v1 v2 I L := by
  intro n
  induction n with
  | zero =>
    intro v2 I L w_I q_I   li  me
    exfalso
    omega
  | succ n ih =>
    intro v2 I L w_I q_I   li  me
    unfold f_X1_passMinute_L7
    have rv2 := i_rng v2
    have rv1 := i_rng v1
    refine ⟨fun c23 => ?_, fun c23 => ?_⟩
    · skip
      first | (have t24 : v2.toInt < (-1) := (i_lt rfl (show (-1 : Int32).toInt = -1 from rfl)).mp c23) | (have t24 : v2.toInt < (-1 : Int32).toInt := (i_lt rfl rfl).mp c23) | skip
      exact hQ  I L w_I q_I 
    · skip
      first | (have t25 : ¬ (v2.toInt < (-1)) := (not_congr (i_lt rfl (show (-1 : Int32).toInt = -1 from rfl))).mp c23) | (have t25 : ¬ (v2.toInt < (-1 : Int32).toInt) := (not_congr (i_lt rfl rfl)).mp c23) | skip
      have t26 : (0 : Int32).toInt = 0 := rfl
      exact ⟨(6 - (0 : Int32).toInt).toNat + 1, l_X1_passMinute_L14 w0 v0 v1 kv0 v2  hQ ih  _ (0 : Int32) I L w_I q_I   (by omega) (by omega) (by omega)⟩
set_option maxHeartbeats 4000000 in
set_option maxRecDepth 100000 in
theorem s_X1_passMinute {Z : jZ} {I : jI} {L : jL} (w_I : WD Z I) (v0 : Nat) (v1 : Int32) (kv0 : jk Z v0 1) {Q : jI → jL → Prop} (hQ : ∀  (I' : jI) (L' : jL), WD Z I' → FR Ws_X1_passMinute Z I Z I' → Q I' L') : f_X1_passMinute v0 v1 Z I L Q := by
  unfold f_X1_passMinute
  have q_I : FR Ws_X1_passMinute Z I Z I := FR.rf
  have rv1 := i_rng v1
  have t28 : 0 ≤ (I v0 6).toInt ∧ (I v0 6).toInt ≤ 24 := w_I.fld 1 6 kv0 (by decide)
  intro x29 ex29
  have rx29 := i_rng x29
  first | (have tx29 : x29.toInt = ((I v0 6).toInt - (2)) := by (rw [ex29]; exact (i_sub rfl (show (2 : Int32).toInt = 2 from rfl) (by omega) (by omega)))) | (have tx29 : x29.toInt = ((I v0 6) - (2 : Int32)).toInt := by rw [ex29])
  exact ⟨(x29.toInt + 2).toNat + 1, l_X1_passMinute_L7 w_I v0 v1 kv0   hQ   _ x29 I L w_I q_I   (by omega)  (by omega)⟩
def Ws_X1_run : List (Nat × Nat) := [(1, 2), (1, 3), (1, 4), (1, 5), (1, 7), (1, 8), (1, 9)]
set_option maxHeartbeats 4000000 in
set_option maxRecDepth 100000 in
theorem l_X1_run_L33 {Z : jZ} {I0 : jI} {Q : jI → jL → Prop} (w0 : WD Z I0) (v0 : Nat) (v1 : Int32) (kv0 : jk Z v0 1) (v2 : Int32) (hQ : ∀  (I' : jI) (L' : jL), WD Z I' → FR Ws_X1_run Z I0 Z I' → Q I' L') {K2 : Nat → Int32 → Int32 → jI → jL → Prop} {N2 : Int} (hK2 : ∀ (v2 : Int32) (I : jI) (L : jL), WD Z I → FR Ws_X1_run Z I0 Z I →   (0 ≤ v2.toInt ∧ v2.toInt ≤ 1000) → 1000 - v2.toInt < N2 → K2 v0 v1 v2 I L) : ∀ (n : Nat) (v3 : Int32) (I : jI) (L : jL), WD Z I → FR Ws_X1_run Z I0 Z I →   (0 ≤ v2.toInt ∧ v2.toInt ≤ 999 ∧ 0 ≤ v3.toInt ∧ v3.toInt ≤ 24) → 1000 - v2.toInt ≤ N2 → 24 - v3.toInt < (n : Int) → f_X1_run_L33 K2 Z Q n v0 v1 v2 v3 I L := by
  intro n
  induction n with
  | zero =>
    intro v3 I L w_I q_I   li hm2 me
    exfalso
    omega
  | succ n ih =>
    intro v3 I L w_I q_I   li hm2 me
    unfold f_X1_run_L33
    have rv3 := i_rng v3
    have rv2 := i_rng v2
    have rv1 := i_rng v1
    have t2 : 0 ≤ (I v0 6).toInt ∧ (I v0 6).toInt ≤ 24 := w_I.fld 1 6 kv0 (by decide)
    refine ⟨fun c3 => ?_, fun c3 => ?_⟩
    · skip
      first | (have t4 : ((I v0 6).toInt - (1)) ≤ v3.toInt := (i_le (i_sub rfl (show (1 : Int32).toInt = 1 from rfl) (by omega) (by omega)) rfl).mp c3) | (have t4 : ((I v0 6) - (1 : Int32)).toInt ≤ v3.toInt := (i_le rfl rfl).mp c3) | skip
      intro x5 ex5
      have rx5 := i_rng x5
      first | (have tx5 : x5.toInt = v2.toInt + (1) := by (rw [ex5]; exact (i_add rfl (show (1 : Int32).toInt = 1 from rfl) (by omega) (by omega)))) | skip
      exact hK2 x5 I L w_I q_I   (by omega)  (by omega)
    · skip
      first | (have t6 : ¬ (((I v0 6).toInt - (1)) ≤ v3.toInt) := (not_congr (i_le (i_sub rfl (show (1 : Int32).toInt = 1 from rfl) (by omega) (by omega)) rfl)).mp c3) | (have t6 : ¬ (((I v0 6) - (1 : Int32)).toInt ≤ v3.toInt) := (not_congr (i_le rfl rfl)).mp c3) | skip
      intro b7 eb7
      obtain ⟨x8, ex8, kb7, lb7⟩ := sh_f w_I.1 kv0 (j := 4) (k := 14) (m := 24) rfl
      cases eb7.symm.trans ex8
      have o9 : vp_in v3 24 := vi_of rfl (by omega) (by omega)
      refine ⟨o9, ?_⟩
      intro I10 eI10
      try (have t11 : (if (I v0 9) < (I b7 v3.toNatClampNeg) then (I b7 v3.toNatClampNeg) else (I v0 9)).toInt = (max (I v0 9).toInt (I b7 v3.toNatClampNeg).toInt) := (i_max rfl rfl))
      have w_I10 : WD Z I10 := by rw [eI10]; exact WD_putF w_I 1 9 kv0 (by decide) (by decide) trivial
      have f_I10 : FR [(1, 9)] Z I Z I10 := by rw [eI10]; exact FR_putF kv0 (by decide) List.mem_cons_self
      have q_I10 : FR Ws_X1_run Z I0 Z I10 := q_I.trans w0.1 w0.2.1 (f_I10.mono (by decide))
      have u12 : (I10 v0 6).toInt = (I v0 6).toInt := by rw [f_I10.2.2.1 v0 1 6 kv0 (by decide) (by decide)]
      first | (have u13 : (I10 v0 9).toInt = (max (I v0 9).toInt (I b7 v3.toNatClampNeg).toInt) := by (rw [eI10, show jpI I v0 9 (if (I v0 9) < (I b7 v3.toNatClampNeg) then (I b7 v3.toNatClampNeg) else (I v0 9)) v0 9 = (if (I v0 9) < (I b7 v3.toNatClampNeg) then (I b7 v3.toNatClampNeg) else (I v0 9)) from jpI_at] <;> exact (i_max rfl rfl))) | skip
      intro x14 ex14
      have rx14 := i_rng x14
      first | (have tx14 : x14.toInt = v3.toInt + (1) := by (rw [ex14]; exact (i_add rfl (show (1 : Int32).toInt = 1 from rfl) (by omega) (by omega)))) | skip
      exact ih x14 I10 L w_I10 q_I10   (by omega) (by omega) (by omega)
set_option maxHeartbeats 4000000 in
set_option maxRecDepth 100000 in
theorem l_X1_run_L2 {Z : jZ} {I0 : jI} {Q : jI → jL → Prop} (w0 : WD Z I0) (v0 : Nat) (v1 : Int32) (kv0 : jk Z v0 1) (hQ : ∀  (I' : jI) (L' : jL), WD Z I' → FR Ws_X1_run Z I0 Z I' → Q I' L') : ∀ (n : Nat) (v2 : Int32) (I : jI) (L : jL), WD Z I → FR Ws_X1_run Z I0 Z I →   (0 ≤ v2.toInt ∧ v2.toInt ≤ 1000) → 1000 - v2.toInt < (n : Int) → f_X1_run_L2  Z Q n v0 v1 v2 I L := by
  intro n
  induction n with
  | zero =>
    intro v2 I L w_I q_I   li  me
    exfalso
    omega
  | succ n ih =>
    intro v2 I L w_I q_I   li  me
    unfold f_X1_run_L2
    have rv2 := i_rng v2
    have rv1 := i_rng v1
    refine ⟨fun c15 => ?_, fun c15 => ?_⟩
    · skip
      first | (have t16 : (1000) ≤ v2.toInt := (i_le (show (1000 : Int32).toInt = 1000 from rfl) rfl).mp c15) | (have t16 : (1000 : Int32).toInt ≤ v2.toInt := (i_le rfl rfl).mp c15) | skip
      exact hQ  I L w_I q_I 
    · skip
      first | (have t17 : ¬ ((1000) ≤ v2.toInt) := (not_congr (i_le (show (1000 : Int32).toInt = 1000 from rfl) rfl)).mp c15) | (have t17 : ¬ ((1000 : Int32).toInt ≤ v2.toInt) := (not_congr (i_le rfl rfl)).mp c15) | skip
      refine ⟨fun c18 => ?_, fun c18 => ?_⟩
      · skip
        first | (have t19 : (I v0 7).toInt ≤ (0) := (i_le rfl (show (0 : Int32).toInt = 0 from rfl)).mp c18) | (have t19 : (I v0 7).toInt ≤ (0 : Int32).toInt := (i_le rfl rfl).mp c18) | skip
        exact hQ  I L w_I q_I 
      · skip
        first | (have t20 : ¬ ((I v0 7).toInt ≤ (0)) := (not_congr (i_le rfl (show (0 : Int32).toInt = 0 from rfl))).mp c18) | (have t20 : ¬ ((I v0 7).toInt ≤ (0 : Int32).toInt) := (not_congr (i_le rfl rfl)).mp c18) | skip
        refine s_X1_passMinute w_I v0 v1 kv0   (fun  I21 L22 w_I21 f_I21  => ?_)
        have q_I21 : FR Ws_X1_run Z I0 Z I21 := q_I.trans w0.1 w0.2.1 (f_I21.mono (by decide))
        intro I23 eI23
        try (have t24 : ((I21 v0 8) + (1 : Int32)).toInt = ((I21 v0 8).toInt + (1)) := (i_add rfl (show (1 : Int32).toInt = 1 from rfl) (by omega) (by omega)))
        have w_I23 : WD Z I23 := by rw [eI23]; exact WD_putF w_I21 1 8 kv0 (by decide) (by decide) trivial
        have f_I23 : FR [(1, 8)] Z I21 Z I23 := by rw [eI23]; exact FR_putF kv0 (by decide) List.mem_cons_self
        have q_I23 : FR Ws_X1_run Z I0 Z I23 := q_I21.trans w0.1 w0.2.1 (f_I23.mono (by decide))
        first | (have u25 : (I23 v0 8).toInt = ((I21 v0 8).toInt + (1)) := by (rw [eI23, show jpI I21 v0 8 ((I21 v0 8) + (1 : Int32)) v0 8 = ((I21 v0 8) + (1 : Int32)) from jpI_at] <;> exact (i_add rfl (show (1 : Int32).toInt = 1 from rfl) (by omega) (by omega)))) | skip
        have t26 : (0 : Int32).toInt = 0 := rfl
        exact ⟨(24 - (0 : Int32).toInt).toNat + 1, l_X1_run_L33 w0 v0 v1 kv0 v2  hQ ih  _ (0 : Int32) I23 L22 w_I23 q_I23   (by omega) (by omega) (by omega)⟩
set_option maxHeartbeats 4000000 in
set_option maxRecDepth 100000 in
theorem s_X1_run {Z : jZ} {I : jI} {L : jL} (w_I : WD Z I) (v0 : Nat) (v1 : Int32) (kv0 : jk Z v0 1) {Q : jI → jL → Prop} (hQ : ∀  (I' : jI) (L' : jL), WD Z I' → FR Ws_X1_run Z I Z I' → Q I' L') : f_X1_run v0 v1 Z I L Q := by
  unfold f_X1_run
  have q_I : FR Ws_X1_run Z I Z I := FR.rf
  have rv1 := i_rng v1
  have t27 : (0 : Int32).toInt = 0 := rfl
  exact ⟨(1000 - (0 : Int32).toInt).toNat + 1, l_X1_run_L2 w_I v0 v1 kv0   hQ   _ (0 : Int32) I L w_I q_I   (by omega)  (by omega)⟩
set_option maxHeartbeats 4000000 in
set_option maxRecDepth 100000 in
theorem l_X1_longestWaiting_L4 {Z : jZ} {I : jI} {L : jL} {Q : Int32 → jI → jL → Prop} (w_I : WD Z I) (v0 : Nat) (kv0 : jk Z v0 1) (hQ : ∀ (r : Int32), (-1 ≤ r.toInt ∧ r.toInt ≤ 5) → Q r I L) : ∀ (n : Nat) (v1 : Int32) (v2 : Int32) ,   (-1 ≤ v1.toInt ∧ v1.toInt ≤ 5 ∧ 0 ≤ v2.toInt ∧ v2.toInt ≤ 6) → 6 - v2.toInt < (n : Int) → f_X1_longestWaiting_L4  Z Q n v0 v1 v2 I L := by
  intro n
  induction n with
  | zero =>
    intro v1 v2   li  me
    exfalso
    omega
  | succ n ih =>
    intro v1 v2   li  me
    unfold f_X1_longestWaiting_L4
    have rv1 := i_rng v1
    have rv2 := i_rng v2
    refine ⟨fun c1 => ?_, fun c1 => ?_⟩
    · skip
      first | (have t2 : (6) ≤ v2.toInt := (i_le (show (6 : Int32).toInt = 6 from rfl) rfl).mp c1) | (have t2 : (6 : Int32).toInt ≤ v2.toInt := (i_le rfl rfl).mp c1) | skip
      exact hQ v1 (by omega)
    · skip
      first | (have t3 : ¬ ((6) ≤ v2.toInt) := (not_congr (i_le (show (6 : Int32).toInt = 6 from rfl) rfl)).mp c1) | (have t3 : ¬ ((6 : Int32).toInt ≤ v2.toInt) := (not_congr (i_le rfl rfl)).mp c1) | skip
      intro b4 eb4
      obtain ⟨x5, ex5, kb4, lb4⟩ := sh_f w_I.1 kv0 (j := 3) (k := 14) (m := 6) rfl
      cases eb4.symm.trans ex5
      have o6 : vp_in v2 6 := vi_of rfl (by omega) (by omega)
      refine ⟨o6, ?_⟩
      refine ⟨fun c7 => ?_, fun c7 => ?_⟩
      · skip
        first | (have t8 : ¬ (v1.toInt = (-1)) := (not_congr (i_eq rfl (show (-1 : Int32).toInt = -1 from rfl))).mp c7) | (have t8 : ¬ (v1.toInt = (-1 : Int32).toInt) := (not_congr (i_eq rfl rfl)).mp c7) | skip
        intro b9 eb9
        obtain rfl : b4 = b9 := Option.some.inj (eb4.symm.trans eb9)
        have o10 : vp_in v1 6 := vi_of rfl (by omega) (by omega)
        refine ⟨o10, ?_⟩
        unfold f_X1_longestWaiting_b31
        refine ⟨fun c11 => ?_, fun c11 => ?_⟩
        · skip
          first | (have t12 : (I b4 v2.toNatClampNeg).toInt ≤ (I b4 v1.toNatClampNeg).toInt := (i_le rfl rfl).mp c11) | (have t12 : (I b4 v2.toNatClampNeg).toInt ≤ (I b4 v1.toNatClampNeg).toInt := (i_le rfl rfl).mp c11) | skip
          unfold f_X1_longestWaiting_b36
          intro x13 ex13
          have rx13 := i_rng x13
          first | (have tx13 : x13.toInt = v2.toInt + (1) := by (rw [ex13]; exact (i_add rfl (show (1 : Int32).toInt = 1 from rfl) (by omega) (by omega)))) | skip
          exact ih v1 x13   (by omega)  (by omega)
        · skip
          first | (have t14 : ¬ ((I b4 v2.toNatClampNeg).toInt ≤ (I b4 v1.toNatClampNeg).toInt) := (not_congr (i_le rfl rfl)).mp c11) | (have t14 : ¬ ((I b4 v2.toNatClampNeg).toInt ≤ (I b4 v1.toNatClampNeg).toInt) := (not_congr (i_le rfl rfl)).mp c11) | skip
          unfold f_X1_longestWaiting_b36
          intro x15 ex15
          have rx15 := i_rng x15
          first | (have tx15 : x15.toInt = v2.toInt + (1) := by (rw [ex15]; exact (i_add rfl (show (1 : Int32).toInt = 1 from rfl) (by omega) (by omega)))) | skip
          exact ih v2 x15   (by omega)  (by omega)
      · skip
        first | (have t16 : v1.toInt = (-1) := (i_eq rfl (show (-1 : Int32).toInt = -1 from rfl)).mp c7) | (have t16 : v1.toInt = (-1 : Int32).toInt := (i_eq rfl rfl).mp c7) | skip
        unfold f_X1_longestWaiting_b31
        refine ⟨fun c17 => ?_, fun c17 => ?_⟩
        · skip
          first | (have t18 : (I b4 v2.toNatClampNeg).toInt ≤ (0) := (i_le rfl (show (0 : Int32).toInt = 0 from rfl)).mp c17) | (have t18 : (I b4 v2.toNatClampNeg).toInt ≤ (0 : Int32).toInt := (i_le rfl rfl).mp c17) | skip
          unfold f_X1_longestWaiting_b36
          intro x19 ex19
          have rx19 := i_rng x19
          first | (have tx19 : x19.toInt = v2.toInt + (1) := by (rw [ex19]; exact (i_add rfl (show (1 : Int32).toInt = 1 from rfl) (by omega) (by omega)))) | skip
          exact ih v1 x19   (by omega)  (by omega)
        · skip
          first | (have t20 : ¬ ((I b4 v2.toNatClampNeg).toInt ≤ (0)) := (not_congr (i_le rfl (show (0 : Int32).toInt = 0 from rfl))).mp c17) | (have t20 : ¬ ((I b4 v2.toNatClampNeg).toInt ≤ (0 : Int32).toInt) := (not_congr (i_le rfl rfl)).mp c17) | skip
          unfold f_X1_longestWaiting_b36
          intro x21 ex21
          have rx21 := i_rng x21
          first | (have tx21 : x21.toInt = v2.toInt + (1) := by (rw [ex21]; exact (i_add rfl (show (1 : Int32).toInt = 1 from rfl) (by omega) (by omega)))) | skip
          exact ih v2 x21   (by omega)  (by omega)
set_option maxHeartbeats 4000000 in
set_option maxRecDepth 100000 in
theorem s_X1_longestWaiting {Z : jZ} {I : jI} {L : jL} (w_I : WD Z I) (v0 : Nat) (kv0 : jk Z v0 1) {Q : Int32 → jI → jL → Prop} (hQ : ∀ (r : Int32), (-1 ≤ r.toInt ∧ r.toInt ≤ 5) → Q r I L) : f_X1_longestWaiting v0 Z I L Q := by
  unfold f_X1_longestWaiting
  have t22 : (-1 : Int32).toInt = -1 := rfl
  have t23 : (0 : Int32).toInt = 0 := rfl
  exact ⟨(6 - (0 : Int32).toInt).toNat + 1, l_X1_longestWaiting_L4 w_I v0 kv0   hQ   _ (-1 : Int32) (0 : Int32)   (by omega)  (by omega)⟩
def Ws_X2_putStairs : List (Nat × Nat) := [(2, 0), (2, 1), (2, 2)]
set_option maxHeartbeats 4000000 in
set_option maxRecDepth 100000 in
theorem s_X2_putStairs {Z : jZ} {I : jI} {L : jL} (w_I : WD Z I) (v0 : Nat) (v1 : Nat) (kv0 : jk Z v0 2) (kv1 : jk Z v1 8) {Q : jI → jL → Prop} (hQ : ∀  (I' : jI) (L' : jL), WD Z I' → FR Ws_X2_putStairs Z I Z I' → Q I' L') : f_X2_putStairs v0 v1 Z I L Q := by
  unfold f_X2_putStairs
  have q_I : FR Ws_X2_putStairs Z I Z I := FR.rf
  intro b1 eb1
  obtain ⟨x2, ex2, kb1, lb1⟩ := sh_f w_I.1 kv1 (j := 1) (k := 14) (m := 24) rfl
  cases eb1.symm.trans ex2
  intro b3 eb3
  obtain ⟨x4, ex4, kb3, lb3⟩ := sh_f w_I.1 kv0 (j := 0) (k := 14) (m := 24) rfl
  cases eb3.symm.trans ex4
  have t5 : (0 : Int32).toInt = 0 := rfl
  have t6 : (0 : Int32).toInt = 0 := rfl
  have t7 : (24 : Int32).toInt = 24 := rfl
  have t8 := i_nat (x := (0 : Int32)) (show (0 : Int32).toInt = 0 from rfl) (by omega)
  have t9 := i_nat (x := (0 : Int32)) (show (0 : Int32).toInt = 0 from rfl) (by omega)
  have t10 := i_nat (x := (24 : Int32)) (show (24 : Int32).toInt = 24 from rfl) (by omega)
  refine ⟨⟨(not_congr (i_lt (show (0 : Int32).toInt = 0 from rfl) (show (0 : Int32).toInt = 0 from rfl))).mpr (by omega), (not_congr (i_lt (show (0 : Int32).toInt = 0 from rfl) (show (0 : Int32).toInt = 0 from rfl))).mpr (by omega), (not_congr (i_lt (show (24 : Int32).toInt = 24 from rfl) (show (0 : Int32).toInt = 0 from rfl))).mpr (by omega), by omega, by omega⟩, ?_⟩
  intro I11 eI11
  have w_I11 : WD Z I11 := by rw [eI11]; exact WD_cpy w_I 2 0 kv0 eb3 kb3 rfl rfl (by decide) (fun _ _ _ => trivial)
  have f_I11 : FR [(2, 0)] Z I Z I11 := by rw [eI11]; exact FR_upA w_I.2.1 kv0 eb3 kb3 rfl rfl List.mem_cons_self
  have q_I11 : FR Ws_X2_putStairs Z I Z I11 := q_I.trans w_I.1 w_I.2.1 (f_I11.mono (by decide))
  intro b12 eb12
  obtain ⟨x13, ex13, kb12, lb12⟩ := sh_f w_I11.1 kv1 (j := 2) (k := 14) (m := 24) rfl
  cases eb12.symm.trans ex13
  intro b14 eb14
  obtain ⟨x15, ex15, kb14, lb14⟩ := sh_f w_I11.1 kv0 (j := 1) (k := 14) (m := 24) rfl
  cases eb14.symm.trans ex15
  have t16 : (0 : Int32).toInt = 0 := rfl
  have t17 : (0 : Int32).toInt = 0 := rfl
  have t18 : (24 : Int32).toInt = 24 := rfl
  have t19 := i_nat (x := (0 : Int32)) (show (0 : Int32).toInt = 0 from rfl) (by omega)
  have t20 := i_nat (x := (0 : Int32)) (show (0 : Int32).toInt = 0 from rfl) (by omega)
  have t21 := i_nat (x := (24 : Int32)) (show (24 : Int32).toInt = 24 from rfl) (by omega)
  refine ⟨⟨(not_congr (i_lt (show (0 : Int32).toInt = 0 from rfl) (show (0 : Int32).toInt = 0 from rfl))).mpr (by omega), (not_congr (i_lt (show (0 : Int32).toInt = 0 from rfl) (show (0 : Int32).toInt = 0 from rfl))).mpr (by omega), (not_congr (i_lt (show (24 : Int32).toInt = 24 from rfl) (show (0 : Int32).toInt = 0 from rfl))).mpr (by omega), by omega, by omega⟩, ?_⟩
  intro I22 eI22
  have w_I22 : WD Z I22 := by rw [eI22]; exact WD_cpy w_I11 2 1 kv0 eb14 kb14 rfl rfl (by decide) (fun q h1 h2 => w_I11.arr 8 2 kv1 eb12 kb12 rfl rfl _)
  have f_I22 : FR [(2, 1)] Z I11 Z I22 := by rw [eI22]; exact FR_upA w_I11.2.1 kv0 eb14 kb14 rfl rfl List.mem_cons_self
  have q_I22 : FR Ws_X2_putStairs Z I Z I22 := q_I11.trans w_I.1 w_I.2.1 (f_I22.mono (by decide))
  intro b23 eb23
  obtain ⟨x24, ex24, kb23⟩ := sh_o w_I22.1 kv1 (j := 4) (k := 4) rfl
  cases eb23.symm.trans ex24
  intro b25 eb25
  obtain ⟨x26, ex26, kb25, lb25⟩ := sh_f w_I22.1 kb23 (j := 0) (k := 14) (m := 192) rfl
  cases eb25.symm.trans ex26
  intro b27 eb27
  obtain ⟨x28, ex28, kb27, lb27⟩ := sh_f w_I22.1 kv0 (j := 2) (k := 14) (m := 192) rfl
  cases eb27.symm.trans ex28
  have t29 : (0 : Int32).toInt = 0 := rfl
  have t30 : (0 : Int32).toInt = 0 := rfl
  have t31 : (192 : Int32).toInt = 192 := rfl
  have t32 := i_nat (x := (0 : Int32)) (show (0 : Int32).toInt = 0 from rfl) (by omega)
  have t33 := i_nat (x := (0 : Int32)) (show (0 : Int32).toInt = 0 from rfl) (by omega)
  have t34 := i_nat (x := (192 : Int32)) (show (192 : Int32).toInt = 192 from rfl) (by omega)
  refine ⟨⟨(not_congr (i_lt (show (0 : Int32).toInt = 0 from rfl) (show (0 : Int32).toInt = 0 from rfl))).mpr (by omega), (not_congr (i_lt (show (0 : Int32).toInt = 0 from rfl) (show (0 : Int32).toInt = 0 from rfl))).mpr (by omega), (not_congr (i_lt (show (192 : Int32).toInt = 192 from rfl) (show (0 : Int32).toInt = 0 from rfl))).mpr (by omega), by omega, by omega⟩, ?_⟩
  intro I35 eI35
  have w_I35 : WD Z I35 := by rw [eI35]; exact WD_cpy w_I22 2 2 kv0 eb27 kb27 rfl rfl (by decide) (fun _ _ _ => trivial)
  have f_I35 : FR [(2, 2)] Z I22 Z I35 := by rw [eI35]; exact FR_upA w_I22.2.1 kv0 eb27 kb27 rfl rfl List.mem_cons_self
  have q_I35 : FR Ws_X2_putStairs Z I Z I35 := q_I22.trans w_I.1 w_I.2.1 (f_I35.mono (by decide))
  exact hQ  I35 L w_I35 q_I35 
def Ws_X4_findMain : List (Nat × Nat) := [(4, 1)]
set_option maxHeartbeats 4000000 in
set_option maxRecDepth 100000 in
theorem l_X4_findMain_L4 {Z : jZ} {I0 : jI} {Q : jI → jL → Prop} (w0 : WD Z I0) (v0 : Nat) (v1 : Int32) (kv0 : jk Z v0 4) (p0 : 0 ≤ v1.toInt ∧ v1.toInt ≤ 23) (hQ : ∀  (I' : jI) (L' : jL), WD Z I' → FR Ws_X4_findMain Z I0 Z I' → Q I' L') : ∀ (n : Nat) (v2 : Int32) (v3 : Int32) (I : jI) (L : jL), WD Z I → FR Ws_X4_findMain Z I0 Z I →   (0 ≤ v2.toInt ∧ v2.toInt ≤ 7 ∧ 1 ≤ v3.toInt ∧ v3.toInt ≤ 8) → 8 - v3.toInt < (n : Int) → f_X4_findMain_L4  Z Q n v0 v1 v2 v3 I L := by
  intro n
  induction n with
  | zero =>
    intro v2 v3 I L w_I q_I   li  me
    exfalso
    omega
  | succ n ih =>
    intro v2 v3 I L w_I q_I   li  me
    unfold f_X4_findMain_L4
    have rv2 := i_rng v2
    have rv3 := i_rng v3
    have rv1 := i_rng v1
    refine ⟨fun c1 => ?_, fun c1 => ?_⟩
    · skip
      first | (have t2 : (8) ≤ v3.toInt := (i_le (show (8 : Int32).toInt = 8 from rfl) rfl).mp c1) | (have t2 : (8 : Int32).toInt ≤ v3.toInt := (i_le rfl rfl).mp c1) | skip
      intro b3 eb3
      obtain ⟨x4, ex4, kb3, lb3⟩ := sh_f w_I.1 kv0 (j := 1) (k := 14) (m := 24) rfl
      cases eb3.symm.trans ex4
      have o5 : vp_in v1 24 := vi_of rfl (by omega) (by omega)
      refine ⟨o5, ?_⟩
      intro I6 eI6
      have w_I6 : WD Z I6 := by rw [eI6]; exact WD_putA w_I 4 1 kv0 eb3 kb3 rfl rfl (by decide) (by constructor <;> omega)
      have f_I6 : FR [(4, 1)] Z I Z I6 := by rw [eI6]; exact FR_upA w_I.2.1 kv0 eb3 kb3 rfl rfl List.mem_cons_self
      have q_I6 : FR Ws_X4_findMain Z I0 Z I6 := q_I.trans w0.1 w0.2.1 (f_I6.mono (by decide))
      exact hQ  I6 L w_I6 q_I6 
    · skip
      first | (have t7 : ¬ ((8) ≤ v3.toInt) := (not_congr (i_le (show (8 : Int32).toInt = 8 from rfl) rfl)).mp c1) | (have t7 : ¬ ((8 : Int32).toInt ≤ v3.toInt) := (not_congr (i_le rfl rfl)).mp c1) | skip
      intro b8 eb8
      obtain ⟨x9, ex9, kb8, lb8⟩ := sh_f w_I.1 kv0 (j := 0) (k := 14) (m := 192) rfl
      cases eb8.symm.trans ex9
      have o10 : vp_in ((v1 * (8 : Int32)) + v3) 192 := vi_of (i_add (i_mul rfl (show (8 : Int32).toInt = 8 from rfl) (by omega) (by omega)) rfl (by omega) (by omega)) (by omega) (by omega)
      refine ⟨o10, ?_⟩
      intro b11 eb11
      obtain rfl : b8 = b11 := Option.some.inj (eb8.symm.trans eb11)
      have o12 : vp_in ((v1 * (8 : Int32)) + v2) 192 := vi_of (i_add (i_mul rfl (show (8 : Int32).toInt = 8 from rfl) (by omega) (by omega)) rfl (by omega) (by omega)) (by omega) (by omega)
      refine ⟨o12, ?_⟩
      refine ⟨fun c13 => ?_, fun c13 => ?_⟩
      · skip
        first | (have t14 : (I b8 ((v1 * (8 : Int32)) + v3).toNatClampNeg).toInt ≤ (I b8 ((v1 * (8 : Int32)) + v2).toNatClampNeg).toInt := (i_le rfl rfl).mp c13) | (have t14 : (I b8 ((v1 * (8 : Int32)) + v3).toNatClampNeg).toInt ≤ (I b8 ((v1 * (8 : Int32)) + v2).toNatClampNeg).toInt := (i_le rfl rfl).mp c13) | skip
        unfold f_X4_findMain_b40
        intro x15 ex15
        have rx15 := i_rng x15
        first | (have tx15 : x15.toInt = v3.toInt + (1) := by (rw [ex15]; exact (i_add rfl (show (1 : Int32).toInt = 1 from rfl) (by omega) (by omega)))) | skip
        exact ih v2 x15 I L w_I q_I   (by omega)  (by omega)
      · skip
        first | (have t16 : ¬ ((I b8 ((v1 * (8 : Int32)) + v3).toNatClampNeg).toInt ≤ (I b8 ((v1 * (8 : Int32)) + v2).toNatClampNeg).toInt) := (not_congr (i_le rfl rfl)).mp c13) | (have t16 : ¬ ((I b8 ((v1 * (8 : Int32)) + v3).toNatClampNeg).toInt ≤ (I b8 ((v1 * (8 : Int32)) + v2).toNatClampNeg).toInt) := (not_congr (i_le rfl rfl)).mp c13) | skip
        unfold f_X4_findMain_b40
        intro x17 ex17
        have rx17 := i_rng x17
        first | (have tx17 : x17.toInt = v3.toInt + (1) := by (rw [ex17]; exact (i_add rfl (show (1 : Int32).toInt = 1 from rfl) (by omega) (by omega)))) | skip
        exact ih v3 x17 I L w_I q_I   (by omega)  (by omega)
set_option maxHeartbeats 4000000 in
set_option maxRecDepth 100000 in
theorem s_X4_findMain {Z : jZ} {I : jI} {L : jL} (w_I : WD Z I) (v0 : Nat) (v1 : Int32) (kv0 : jk Z v0 4) (p0 : 0 ≤ v1.toInt ∧ v1.toInt ≤ 23) {Q : jI → jL → Prop} (hQ : ∀  (I' : jI) (L' : jL), WD Z I' → FR Ws_X4_findMain Z I Z I' → Q I' L') : f_X4_findMain v0 v1 Z I L Q := by
  unfold f_X4_findMain
  have q_I : FR Ws_X4_findMain Z I Z I := FR.rf
  have rv1 := i_rng v1
  have t18 : (0 : Int32).toInt = 0 := rfl
  have t19 : (1 : Int32).toInt = 1 := rfl
  exact ⟨(8 - (1 : Int32).toInt).toNat + 1, l_X4_findMain_L4 w_I v0 v1 kv0 p0   hQ   _ (0 : Int32) (1 : Int32) I L w_I q_I   (by omega)  (by omega)⟩
def Ws_X4_findMains : List (Nat × Nat) := [(4, 1)]
set_option maxHeartbeats 4000000 in
set_option maxRecDepth 100000 in
theorem l_X4_findMains_L2 {Z : jZ} {I0 : jI} {Q : jI → jL → Prop} (w0 : WD Z I0) (v0 : Nat) (kv0 : jk Z v0 4) (hQ : ∀  (I' : jI) (L' : jL), WD Z I' → FR Ws_X4_findMains Z I0 Z I' → Q I' L') : ∀ (n : Nat) (v1 : Int32) (I : jI) (L : jL), WD Z I → FR Ws_X4_findMains Z I0 Z I →   (0 ≤ v1.toInt ∧ v1.toInt ≤ 24) → 24 - v1.toInt < (n : Int) → f_X4_findMains_L2  Z Q n v0 v1 I L := by
  intro n
  induction n with
  | zero =>
    intro v1 I L w_I q_I   li  me
    exfalso
    omega
  | succ n ih =>
    intro v1 I L w_I q_I   li  me
    unfold f_X4_findMains_L2
    have rv1 := i_rng v1
    refine ⟨fun c1 => ?_, fun c1 => ?_⟩
    · skip
      first | (have t2 : (24) ≤ v1.toInt := (i_le (show (24 : Int32).toInt = 24 from rfl) rfl).mp c1) | (have t2 : (24 : Int32).toInt ≤ v1.toInt := (i_le rfl rfl).mp c1) | skip
      exact hQ  I L w_I q_I 
    · skip
      first | (have t3 : ¬ ((24) ≤ v1.toInt) := (not_congr (i_le (show (24 : Int32).toInt = 24 from rfl) rfl)).mp c1) | (have t3 : ¬ ((24 : Int32).toInt ≤ v1.toInt) := (not_congr (i_le rfl rfl)).mp c1) | skip
      refine s_X4_findMain w_I v0 v1 kv0  (by omega) (fun  I4 L5 w_I4 f_I4  => ?_)
      have q_I4 : FR Ws_X4_findMains Z I0 Z I4 := q_I.trans w0.1 w0.2.1 (f_I4.mono (by decide))
      intro x6 ex6
      have rx6 := i_rng x6
      first | (have tx6 : x6.toInt = v1.toInt + (1) := by (rw [ex6]; exact (i_add rfl (show (1 : Int32).toInt = 1 from rfl) (by omega) (by omega)))) | skip
      exact ih x6 I4 L5 w_I4 q_I4   (by omega)  (by omega)
set_option maxHeartbeats 4000000 in
set_option maxRecDepth 100000 in
theorem s_X4_findMains {Z : jZ} {I : jI} {L : jL} (w_I : WD Z I) (v0 : Nat) (kv0 : jk Z v0 4) {Q : jI → jL → Prop} (hQ : ∀  (I' : jI) (L' : jL), WD Z I' → FR Ws_X4_findMains Z I Z I' → Q I' L') : f_X4_findMains v0 Z I L Q := by
  unfold f_X4_findMains
  have q_I : FR Ws_X4_findMains Z I Z I := FR.rf
  have t7 : (0 : Int32).toInt = 0 := rfl
  exact ⟨(24 - (0 : Int32).toInt).toNat + 1, l_X4_findMains_L2 w_I v0 kv0   hQ   _ (0 : Int32) I L w_I q_I   (by omega)  (by omega)⟩
def Ws_X4_restore : List (Nat × Nat) := [(4, 0), (4, 1), (4, 4)]
set_option maxHeartbeats 4000000 in
set_option maxRecDepth 100000 in
theorem s_X4_restore {Z : jZ} {I : jI} {L : jL} (w_I : WD Z I) (v0 : Nat) (v1 : Nat) (kv0 : jk Z v0 4) (kv1 : jk Z v1 14) (o1_ c1_ j1_ : Nat) (ho1 : jk Z o1_ c1_) (hr1 : jr Z o1_ j1_ = some v1) (p0 : jlen Z v1 = 192) {Q : jI → jL → Prop} (hQ : ∀  (I' : jI) (L' : jL), WD Z I' → FR Ws_X4_restore Z I Z I' → Q I' L') : f_X4_restore v0 v1 Z I L Q := by
  unfold f_X4_restore
  have q_I : FR Ws_X4_restore Z I Z I := FR.rf
  intro b1 eb1
  obtain ⟨x2, ex2, kb1, lb1⟩ := sh_f w_I.1 kv0 (j := 0) (k := 14) (m := 192) rfl
  cases eb1.symm.trans ex2
  have t3 : (0 : Int32).toInt = 0 := rfl
  have t4 : (0 : Int32).toInt = 0 := rfl
  have t5 : (192 : Int32).toInt = 192 := rfl
  have t6 := i_nat (x := (0 : Int32)) (show (0 : Int32).toInt = 0 from rfl) (by omega)
  have t7 := i_nat (x := (0 : Int32)) (show (0 : Int32).toInt = 0 from rfl) (by omega)
  have t8 := i_nat (x := (192 : Int32)) (show (192 : Int32).toInt = 192 from rfl) (by omega)
  refine ⟨⟨(not_congr (i_lt (show (0 : Int32).toInt = 0 from rfl) (show (0 : Int32).toInt = 0 from rfl))).mpr (by omega), (not_congr (i_lt (show (0 : Int32).toInt = 0 from rfl) (show (0 : Int32).toInt = 0 from rfl))).mpr (by omega), (not_congr (i_lt (show (192 : Int32).toInt = 192 from rfl) (show (0 : Int32).toInt = 0 from rfl))).mpr (by omega), by omega, by omega⟩, ?_⟩
  intro I9 eI9
  have w_I9 : WD Z I9 := by rw [eI9]; exact WD_cpy w_I 4 0 kv0 eb1 kb1 rfl rfl (by decide) (fun _ _ _ => trivial)
  have f_I9 : FR [(4, 0)] Z I Z I9 := by rw [eI9]; exact FR_upA w_I.2.1 kv0 eb1 kb1 rfl rfl List.mem_cons_self
  have q_I9 : FR Ws_X4_restore Z I Z I9 := q_I.trans w_I.1 w_I.2.1 (f_I9.mono (by decide))
  intro I10 eI10
  have t11 : (0 : Int32).toInt = 0 := rfl
  have w_I10 : WD Z I10 := by rw [eI10]; exact WD_putF w_I9 4 4 kv0 (by decide) (by decide) (by constructor <;> omega)
  have f_I10 : FR [(4, 4)] Z I9 Z I10 := by rw [eI10]; exact FR_putF kv0 (by decide) List.mem_cons_self
  have q_I10 : FR Ws_X4_restore Z I Z I10 := q_I9.trans w_I.1 w_I.2.1 (f_I10.mono (by decide))
  first | (have u12 : (I10 v0 4).toInt = (0) := by (rw [eI10, show jpI I9 v0 4 (0 : Int32) v0 4 = (0 : Int32) from jpI_at] <;> exact (show (0 : Int32).toInt = 0 from rfl))) | skip
  refine s_X4_findMains w_I10 v0 kv0   (fun  I13 L14 w_I13 f_I13  => ?_)
  have q_I13 : FR Ws_X4_restore Z I Z I13 := q_I10.trans w_I.1 w_I.2.1 (f_I13.mono (by decide))
  have u15 : (I13 v0 4).toInt = (I10 v0 4).toInt := by rw [f_I13.2.2.1 v0 4 4 kv0 (by decide) (by decide)]
  exact hQ  I13 L14 w_I13 q_I13 
def Ws_X2_getStairs : List (Nat × Nat) := [(4, 0), (4, 1), (4, 4), (8, 1), (8, 2)]
set_option maxHeartbeats 4000000 in
set_option maxRecDepth 100000 in
theorem s_X2_getStairs {Z : jZ} {I : jI} {L : jL} (w_I : WD Z I) (v0 : Nat) (v1 : Nat) (kv0 : jk Z v0 2) (kv1 : jk Z v1 8) {Q : jI → jL → Prop} (hQ : ∀  (I' : jI) (L' : jL), WD Z I' → FR Ws_X2_getStairs Z I Z I' → Q I' L') : f_X2_getStairs v0 v1 Z I L Q := by
  unfold f_X2_getStairs
  have q_I : FR Ws_X2_getStairs Z I Z I := FR.rf
  intro b1 eb1
  obtain ⟨x2, ex2, kb1, lb1⟩ := sh_f w_I.1 kv0 (j := 0) (k := 14) (m := 24) rfl
  cases eb1.symm.trans ex2
  intro b3 eb3
  obtain ⟨x4, ex4, kb3, lb3⟩ := sh_f w_I.1 kv1 (j := 1) (k := 14) (m := 24) rfl
  cases eb3.symm.trans ex4
  have t5 : (0 : Int32).toInt = 0 := rfl
  have t6 : (0 : Int32).toInt = 0 := rfl
  have t7 : (24 : Int32).toInt = 24 := rfl
  have t8 := i_nat (x := (0 : Int32)) (show (0 : Int32).toInt = 0 from rfl) (by omega)
  have t9 := i_nat (x := (0 : Int32)) (show (0 : Int32).toInt = 0 from rfl) (by omega)
  have t10 := i_nat (x := (24 : Int32)) (show (24 : Int32).toInt = 24 from rfl) (by omega)
  refine ⟨⟨(not_congr (i_lt (show (0 : Int32).toInt = 0 from rfl) (show (0 : Int32).toInt = 0 from rfl))).mpr (by omega), (not_congr (i_lt (show (0 : Int32).toInt = 0 from rfl) (show (0 : Int32).toInt = 0 from rfl))).mpr (by omega), (not_congr (i_lt (show (24 : Int32).toInt = 24 from rfl) (show (0 : Int32).toInt = 0 from rfl))).mpr (by omega), by omega, by omega⟩, ?_⟩
  intro I11 eI11
  have w_I11 : WD Z I11 := by rw [eI11]; exact WD_cpy w_I 8 1 kv1 eb3 kb3 rfl rfl (by decide) (fun _ _ _ => trivial)
  have f_I11 : FR [(8, 1)] Z I Z I11 := by rw [eI11]; exact FR_upA w_I.2.1 kv1 eb3 kb3 rfl rfl List.mem_cons_self
  have q_I11 : FR Ws_X2_getStairs Z I Z I11 := q_I.trans w_I.1 w_I.2.1 (f_I11.mono (by decide))
  intro b12 eb12
  obtain ⟨x13, ex13, kb12, lb12⟩ := sh_f w_I11.1 kv0 (j := 1) (k := 14) (m := 24) rfl
  cases eb12.symm.trans ex13
  intro b14 eb14
  obtain ⟨x15, ex15, kb14, lb14⟩ := sh_f w_I11.1 kv1 (j := 2) (k := 14) (m := 24) rfl
  cases eb14.symm.trans ex15
  have t16 : (0 : Int32).toInt = 0 := rfl
  have t17 : (0 : Int32).toInt = 0 := rfl
  have t18 : (24 : Int32).toInt = 24 := rfl
  have t19 := i_nat (x := (0 : Int32)) (show (0 : Int32).toInt = 0 from rfl) (by omega)
  have t20 := i_nat (x := (0 : Int32)) (show (0 : Int32).toInt = 0 from rfl) (by omega)
  have t21 := i_nat (x := (24 : Int32)) (show (24 : Int32).toInt = 24 from rfl) (by omega)
  refine ⟨⟨(not_congr (i_lt (show (0 : Int32).toInt = 0 from rfl) (show (0 : Int32).toInt = 0 from rfl))).mpr (by omega), (not_congr (i_lt (show (0 : Int32).toInt = 0 from rfl) (show (0 : Int32).toInt = 0 from rfl))).mpr (by omega), (not_congr (i_lt (show (24 : Int32).toInt = 24 from rfl) (show (0 : Int32).toInt = 0 from rfl))).mpr (by omega), by omega, by omega⟩, ?_⟩
  intro I22 eI22
  have w_I22 : WD Z I22 := by rw [eI22]; exact WD_cpy w_I11 8 2 kv1 eb14 kb14 rfl rfl (by decide) (fun q h1 h2 => w_I11.arr 2 1 kv0 eb12 kb12 rfl rfl _)
  have f_I22 : FR [(8, 2)] Z I11 Z I22 := by rw [eI22]; exact FR_upA w_I11.2.1 kv1 eb14 kb14 rfl rfl List.mem_cons_self
  have q_I22 : FR Ws_X2_getStairs Z I Z I22 := q_I11.trans w_I.1 w_I.2.1 (f_I22.mono (by decide))
  intro b23 eb23
  obtain ⟨x24, ex24, kb23⟩ := sh_o w_I22.1 kv1 (j := 4) (k := 4) rfl
  cases eb23.symm.trans ex24
  intro b25 eb25
  obtain ⟨x26, ex26, kb25, lb25⟩ := sh_f w_I22.1 kv0 (j := 2) (k := 14) (m := 192) rfl
  cases eb25.symm.trans ex26
  refine s_X4_restore w_I22 b23 b25 kb23 kb25 v0 2 2 kv0 eb25 (by omega) (fun  I27 L28 w_I27 f_I27  => ?_)
  have q_I27 : FR Ws_X2_getStairs Z I Z I27 := q_I22.trans w_I.1 w_I.2.1 (f_I27.mono (by decide))
  exact hQ  I27 L28 w_I27 q_I27 
def Ws_X2_putPilgrim : List (Nat × Nat) := [(2, 4), (2, 5), (2, 6)]
set_option maxHeartbeats 4000000 in
set_option maxRecDepth 100000 in
theorem s_X2_putPilgrim {Z : jZ} {I : jI} {L : jL} (w_I : WD Z I) (v0 : Nat) (v1 : Int32) (v2 : Nat) (kv0 : jk Z v0 2) (kv2 : jk Z v2 5) {Q : jI → jL → Prop} (hQ : ∀  (I' : jI) (L' : jL), WD Z I' → FR Ws_X2_putPilgrim Z I Z I' → Q I' L') : f_X2_putPilgrim v0 v1 v2 Z I L Q := by
  unfold f_X2_putPilgrim
  have q_I : FR Ws_X2_putPilgrim Z I Z I := FR.rf
  have rv1 := i_rng v1
  refine ⟨fun c1 => ?_, fun c1 => ?_⟩
  · skip
    first | (have t2 : v1.toInt < (0) := (i_lt rfl (show (0 : Int32).toInt = 0 from rfl)).mp c1) | (have t2 : v1.toInt < (0 : Int32).toInt := (i_lt rfl rfl).mp c1) | skip
    exact hQ  I L w_I q_I 
  · skip
    first | (have t3 : ¬ (v1.toInt < (0)) := (not_congr (i_lt rfl (show (0 : Int32).toInt = 0 from rfl))).mp c1) | (have t3 : ¬ (v1.toInt < (0 : Int32).toInt) := (not_congr (i_lt rfl rfl)).mp c1) | skip
    refine ⟨fun c4 => ?_, fun c4 => ?_⟩
    · skip
      first | (have t5 : (6) ≤ v1.toInt := (i_le (show (6 : Int32).toInt = 6 from rfl) rfl).mp c4) | (have t5 : (6 : Int32).toInt ≤ v1.toInt := (i_le rfl rfl).mp c4) | skip
      exact hQ  I L w_I q_I 
    · skip
      first | (have t6 : ¬ ((6) ≤ v1.toInt) := (not_congr (i_le (show (6 : Int32).toInt = 6 from rfl) rfl)).mp c4) | (have t6 : ¬ ((6 : Int32).toInt ≤ v1.toInt) := (not_congr (i_le rfl rfl)).mp c4) | skip
      intro b7 eb7
      obtain ⟨x8, ex8, kb7, lb7⟩ := sh_f w_I.1 kv0 (j := 4) (k := 14) (m := 6) rfl
      cases eb7.symm.trans ex8
      have t10 : -1 ≤ (I v2 5).toInt ∧ (I v2 5).toInt ≤ 23 := w_I.fld 5 5 kv2 (by decide)
      have o11 : vp_in v1 6 := vi_of rfl (by omega) (by omega)
      refine ⟨o11, ?_⟩
      intro I12 eI12
      have w_I12 : WD Z I12 := by rw [eI12]; exact WD_putA w_I 2 4 kv0 eb7 kb7 rfl rfl (by decide) (by constructor <;> omega)
      have f_I12 : FR [(2, 4)] Z I Z I12 := by rw [eI12]; exact FR_upA w_I.2.1 kv0 eb7 kb7 rfl rfl List.mem_cons_self
      have q_I12 : FR Ws_X2_putPilgrim Z I Z I12 := q_I.trans w_I.1 w_I.2.1 (f_I12.mono (by decide))
      have u13 : (I12 v2 5).toInt = (I v2 5).toInt := by rw [f_I12.2.2.1 v2 5 5 kv2 (by decide) (by decide)]
      intro b14 eb14
      obtain ⟨x15, ex15, kb14, lb14⟩ := sh_f w_I12.1 kv0 (j := 5) (k := 14) (m := 6) rfl
      cases eb14.symm.trans ex15
      have o16 : vp_in v1 6 := vi_of rfl (by omega) (by omega)
      refine ⟨o16, ?_⟩
      intro I17 eI17
      have w_I17 : WD Z I17 := by rw [eI17]; exact WD_putA w_I12 2 5 kv0 eb14 kb14 rfl rfl (by decide) trivial
      have f_I17 : FR [(2, 5)] Z I12 Z I17 := by rw [eI17]; exact FR_upA w_I12.2.1 kv0 eb14 kb14 rfl rfl List.mem_cons_self
      have q_I17 : FR Ws_X2_putPilgrim Z I Z I17 := q_I12.trans w_I.1 w_I.2.1 (f_I17.mono (by decide))
      have u18 : (I17 v2 5).toInt = (I12 v2 5).toInt := by rw [f_I17.2.2.1 v2 5 5 kv2 (by decide) (by decide)]
      have u19 : (I17 v2 6).toInt = (I12 v2 6).toInt := by rw [f_I17.2.2.1 v2 5 6 kv2 (by decide) (by decide)]
      intro b20 eb20
      obtain ⟨x21, ex21, kb20, lb20⟩ := sh_f w_I17.1 kv0 (j := 6) (k := 14) (m := 6) rfl
      cases eb20.symm.trans ex21
      have o22 : vp_in v1 6 := vi_of rfl (by omega) (by omega)
      refine ⟨o22, ?_⟩
      intro I23 eI23
      have w_I23 : WD Z I23 := by rw [eI23]; exact WD_putA w_I17 2 6 kv0 eb20 kb20 rfl rfl (by decide) trivial
      have f_I23 : FR [(2, 6)] Z I17 Z I23 := by rw [eI23]; exact FR_upA w_I17.2.1 kv0 eb20 kb20 rfl rfl List.mem_cons_self
      have q_I23 : FR Ws_X2_putPilgrim Z I Z I23 := q_I17.trans w_I.1 w_I.2.1 (f_I23.mono (by decide))
      have u24 : (I23 v2 5).toInt = (I17 v2 5).toInt := by rw [f_I23.2.2.1 v2 5 5 kv2 (by decide) (by decide)]
      have u25 : (I23 v2 6).toInt = (I17 v2 6).toInt := by rw [f_I23.2.2.1 v2 5 6 kv2 (by decide) (by decide)]
      have u26 : (I23 v2 7).toInt = (I17 v2 7).toInt := by rw [f_I23.2.2.1 v2 5 7 kv2 (by decide) (by decide)]
      exact hQ  I23 L w_I23 q_I23 
def Ws_X2_getPilgrim : List (Nat × Nat) := [(5, 5), (5, 6), (5, 7)]
set_option maxHeartbeats 4000000 in
set_option maxRecDepth 100000 in
theorem s_X2_getPilgrim {Z : jZ} {I : jI} {L : jL} (w_I : WD Z I) (v0 : Nat) (v1 : Int32) (v2 : Nat) (kv0 : jk Z v0 2) (kv2 : jk Z v2 5) {Q : jI → jL → Prop} (hQ : ∀  (I' : jI) (L' : jL), WD Z I' → FR Ws_X2_getPilgrim Z I Z I' → Q I' L') : f_X2_getPilgrim v0 v1 v2 Z I L Q := by
  unfold f_X2_getPilgrim
  have q_I : FR Ws_X2_getPilgrim Z I Z I := FR.rf
  have rv1 := i_rng v1
  refine ⟨fun c1 => ?_, fun c1 => ?_⟩
  · skip
    first | (have t2 : v1.toInt < (0) := (i_lt rfl (show (0 : Int32).toInt = 0 from rfl)).mp c1) | (have t2 : v1.toInt < (0 : Int32).toInt := (i_lt rfl rfl).mp c1) | skip
    exact hQ  I L w_I q_I 
  · skip
    first | (have t3 : ¬ (v1.toInt < (0)) := (not_congr (i_lt rfl (show (0 : Int32).toInt = 0 from rfl))).mp c1) | (have t3 : ¬ (v1.toInt < (0 : Int32).toInt) := (not_congr (i_lt rfl rfl)).mp c1) | skip
    refine ⟨fun c4 => ?_, fun c4 => ?_⟩
    · skip
      first | (have t5 : (6) ≤ v1.toInt := (i_le (show (6 : Int32).toInt = 6 from rfl) rfl).mp c4) | (have t5 : (6 : Int32).toInt ≤ v1.toInt := (i_le rfl rfl).mp c4) | skip
      exact hQ  I L w_I q_I 
    · skip
      first | (have t6 : ¬ ((6) ≤ v1.toInt) := (not_congr (i_le (show (6 : Int32).toInt = 6 from rfl) rfl)).mp c4) | (have t6 : ¬ ((6 : Int32).toInt ≤ v1.toInt) := (not_congr (i_le rfl rfl)).mp c4) | skip
      intro b7 eb7
      obtain ⟨x8, ex8, kb7, lb7⟩ := sh_f w_I.1 kv0 (j := 4) (k := 14) (m := 6) rfl
      cases eb7.symm.trans ex8
      have o9 : vp_in v1 6 := vi_of rfl (by omega) (by omega)
      refine ⟨o9, ?_⟩
      have t10 : -1 ≤ (I b7 v1.toNatClampNeg).toInt ∧ (I b7 v1.toNatClampNeg).toInt ≤ 23 := w_I.arr 2 4 kv0 eb7 kb7 rfl rfl _
      intro I11 eI11
      have w_I11 : WD Z I11 := by rw [eI11]; exact WD_putF w_I 5 5 kv2 (by decide) (by decide) (by constructor <;> omega)
      have f_I11 : FR [(5, 5)] Z I Z I11 := by rw [eI11]; exact FR_putF kv2 (by decide) List.mem_cons_self
      have q_I11 : FR Ws_X2_getPilgrim Z I Z I11 := q_I.trans w_I.1 w_I.2.1 (f_I11.mono (by decide))
      first | (have u12 : (I11 v2 5).toInt = (I b7 v1.toNatClampNeg).toInt := by (rw [eI11, show jpI I v2 5 (I b7 v1.toNatClampNeg) v2 5 = (I b7 v1.toNatClampNeg) from jpI_at] <;> exact rfl)) | skip
      intro b13 eb13
      obtain ⟨x14, ex14, kb13, lb13⟩ := sh_f w_I11.1 kv0 (j := 5) (k := 14) (m := 6) rfl
      cases eb13.symm.trans ex14
      have o15 : vp_in v1 6 := vi_of rfl (by omega) (by omega)
      refine ⟨o15, ?_⟩
      intro I16 eI16
      have w_I16 : WD Z I16 := by rw [eI16]; exact WD_putF w_I11 5 6 kv2 (by decide) (by decide) trivial
      have f_I16 : FR [(5, 6)] Z I11 Z I16 := by rw [eI16]; exact FR_putF kv2 (by decide) List.mem_cons_self
      have q_I16 : FR Ws_X2_getPilgrim Z I Z I16 := q_I11.trans w_I.1 w_I.2.1 (f_I16.mono (by decide))
      have u17 : (I16 v2 5).toInt = (I11 v2 5).toInt := by rw [f_I16.2.2.1 v2 5 5 kv2 (by decide) (by decide)]
      first | (have u18 : (I16 v2 6).toInt = (I11 b13 v1.toNatClampNeg).toInt := by (rw [eI16, show jpI I11 v2 6 (I11 b13 v1.toNatClampNeg) v2 6 = (I11 b13 v1.toNatClampNeg) from jpI_at] <;> exact rfl)) | skip
      intro b19 eb19
      obtain ⟨x20, ex20, kb19, lb19⟩ := sh_f w_I16.1 kv0 (j := 6) (k := 14) (m := 6) rfl
      cases eb19.symm.trans ex20
      have o21 : vp_in v1 6 := vi_of rfl (by omega) (by omega)
      refine ⟨o21, ?_⟩
      intro I22 eI22
      have w_I22 : WD Z I22 := by rw [eI22]; exact WD_putF w_I16 5 7 kv2 (by decide) (by decide) trivial
      have f_I22 : FR [(5, 7)] Z I16 Z I22 := by rw [eI22]; exact FR_putF kv2 (by decide) List.mem_cons_self
      have q_I22 : FR Ws_X2_getPilgrim Z I Z I22 := q_I16.trans w_I.1 w_I.2.1 (f_I22.mono (by decide))
      have u23 : (I22 v2 5).toInt = (I16 v2 5).toInt := by rw [f_I22.2.2.1 v2 5 5 kv2 (by decide) (by decide)]
      have u24 : (I22 v2 6).toInt = (I16 v2 6).toInt := by rw [f_I22.2.2.1 v2 5 6 kv2 (by decide) (by decide)]
      first | (have u25 : (I22 v2 7).toInt = (I16 b19 v1.toNatClampNeg).toInt := by (rw [eI22, show jpI I16 v2 7 (I16 b19 v1.toNatClampNeg) v2 7 = (I16 b19 v1.toNatClampNeg) from jpI_at] <;> exact rfl)) | skip
      exact hQ  I22 L w_I22 q_I22 
set_option maxHeartbeats 4000000 in
set_option maxRecDepth 100000 in
theorem s_X3_isTold {Z : jZ} {I : jI} {L : jL} (w_I : WD Z I) (v0 : Nat) (kv0 : jk Z v0 3) {Q : Int32 → jI → jL → Prop} (hQ : ∀ (r : Int32), Q r I L) : f_X3_isTold v0 Z I L Q := by
  unfold f_X3_isTold
  have t2 : 0 ≤ (I v0 3).toInt ∧ (I v0 3).toInt ≤ 40 := w_I.fld 3 3 kv0 (by decide)
  refine ⟨fun c3 => ?_, fun c3 => ?_⟩
  · skip
    first | (have t4 : (I v0 3).toInt ≤ (0) := (i_le rfl (show (0 : Int32).toInt = 0 from rfl)).mp c3) | (have t4 : (I v0 3).toInt ≤ (0 : Int32).toInt := (i_le rfl rfl).mp c3) | skip
    have t5 : (0 : Int32).toInt = 0 := rfl
    exact hQ (0 : Int32) 
  · skip
    first | (have t6 : ¬ ((I v0 3).toInt ≤ (0)) := (not_congr (i_le rfl (show (0 : Int32).toInt = 0 from rfl))).mp c3) | (have t6 : ¬ ((I v0 3).toInt ≤ (0 : Int32).toInt) := (not_congr (i_le rfl rfl)).mp c3) | skip
    have t7 : (1 : Int32).toInt = 1 := rfl
    exact hQ (1 : Int32) 
set_option maxHeartbeats 4000000 in
set_option maxRecDepth 100000 in
theorem s_X3_names {Z : jZ} {I : jI} {L : jL} (w_I : WD Z I) (v0 : Nat) (v1 : Int32) (kv0 : jk Z v0 3) {Q : Int32 → jI → jL → Prop} (hQ : ∀ (r : Int32), Q r I L) : f_X3_names v0 v1 Z I L Q := by
  unfold f_X3_names
  have rv1 := i_rng v1
  refine s_X3_isTold w_I v0 kv0   (fun r1  => ?_)
  have rr1 := i_rng r1
  refine ⟨fun c2 => ?_, fun c2 => ?_⟩
  · skip
    first | (have t3 : r1.toInt = (0) := (i_eq rfl (show (0 : Int32).toInt = 0 from rfl)).mp c2) | (have t3 : r1.toInt = (0 : Int32).toInt := (i_eq rfl rfl).mp c2) | skip
    have t4 : (0 : Int32).toInt = 0 := rfl
    exact hQ (0 : Int32) 
  · skip
    first | (have t5 : ¬ (r1.toInt = (0)) := (not_congr (i_eq rfl (show (0 : Int32).toInt = 0 from rfl))).mp c2) | (have t5 : ¬ (r1.toInt = (0 : Int32).toInt) := (not_congr (i_eq rfl rfl)).mp c2) | skip
    have t6 : 0 ≤ (((I v0 4) >>> (v1 &&& 31)) &&& (1 : Int32)).toInt ∧ (((I v0 4) >>> (v1 &&& 31)) &&& (1 : Int32)).toInt < 2 ^ 1 := i_and (n := 1) (by decide)
    refine ⟨fun c7 => ?_, fun c7 => ?_⟩
    · skip
      first | (have t8 : (((I v0 4) >>> (v1 &&& 31)) &&& (1 : Int32)).toInt = (0) := (i_eq rfl (show (0 : Int32).toInt = 0 from rfl)).mp c7) | (have t8 : (((I v0 4) >>> (v1 &&& 31)) &&& (1 : Int32)).toInt = (0 : Int32).toInt := (i_eq rfl rfl).mp c7) | skip
      have t9 : (0 : Int32).toInt = 0 := rfl
      exact hQ (0 : Int32) 
    · skip
      first | (have t10 : ¬ ((((I v0 4) >>> (v1 &&& 31)) &&& (1 : Int32)).toInt = (0)) := (not_congr (i_eq rfl (show (0 : Int32).toInt = 0 from rfl))).mp c7) | (have t10 : ¬ ((((I v0 4) >>> (v1 &&& 31)) &&& (1 : Int32)).toInt = (0 : Int32).toInt) := (not_congr (i_eq rfl rfl)).mp c7) | skip
      have t11 : (1 : Int32).toInt = 1 := rfl
      exact hQ (1 : Int32) 
set_option maxHeartbeats 4000000 in
set_option maxRecDepth 100000 in
theorem s_X10_signAt {Z : jZ} {I : jI} {L : jL} (w_I : WD Z I) (v0 : Nat) (v1 : Int32) (kv0 : jk Z v0 10) {Q : Int32 → jI → jL → Prop} (hQ : ∀ (r : Int32), (-1 ≤ r.toInt ∧ r.toInt ≤ 255) → Q r I L) : f_X10_signAt v0 v1 Z I L Q := by
  unfold f_X10_signAt
  have rv1 := i_rng v1
  refine ⟨fun c1 => ?_, fun c1 => ?_⟩
  · skip
    first | (have t2 : v1.toInt < (0) := (i_lt rfl (show (0 : Int32).toInt = 0 from rfl)).mp c1) | (have t2 : v1.toInt < (0 : Int32).toInt := (i_lt rfl rfl).mp c1) | skip
    have t3 : (-1 : Int32).toInt = -1 := rfl
    exact hQ (-1 : Int32) (by omega)
  · skip
    first | (have t4 : ¬ (v1.toInt < (0)) := (not_congr (i_lt rfl (show (0 : Int32).toInt = 0 from rfl))).mp c1) | (have t4 : ¬ (v1.toInt < (0 : Int32).toInt) := (not_congr (i_lt rfl rfl)).mp c1) | skip
    have t6 : 0 ≤ (I v0 1).toInt ∧ (I v0 1).toInt ≤ 80 := w_I.fld 10 1 kv0 (by decide)
    refine ⟨fun c7 => ?_, fun c7 => ?_⟩
    · skip
      first | (have t8 : (I v0 1).toInt ≤ v1.toInt := (i_le rfl rfl).mp c7) | (have t8 : (I v0 1).toInt ≤ v1.toInt := (i_le rfl rfl).mp c7) | skip
      have t9 : (-1 : Int32).toInt = -1 := rfl
      exact hQ (-1 : Int32) (by omega)
    · skip
      first | (have t10 : ¬ ((I v0 1).toInt ≤ v1.toInt) := (not_congr (i_le rfl rfl)).mp c7) | (have t10 : ¬ ((I v0 1).toInt ≤ v1.toInt) := (not_congr (i_le rfl rfl)).mp c7) | skip
      refine ⟨fun c11 => ?_, fun c11 => ?_⟩
      · skip
        first | (have t12 : (80) ≤ v1.toInt := (i_le (show (80 : Int32).toInt = 80 from rfl) rfl).mp c11) | (have t12 : (80 : Int32).toInt ≤ v1.toInt := (i_le rfl rfl).mp c11) | skip
        have t13 : (-1 : Int32).toInt = -1 := rfl
        exact hQ (-1 : Int32) (by omega)
      · skip
        first | (have t14 : ¬ ((80) ≤ v1.toInt) := (not_congr (i_le (show (80 : Int32).toInt = 80 from rfl) rfl)).mp c11) | (have t14 : ¬ ((80 : Int32).toInt ≤ v1.toInt) := (not_congr (i_le rfl rfl)).mp c11) | skip
        intro b15 eb15
        obtain ⟨x16, ex16, kb15, lb15⟩ := sh_f w_I.1 kv0 (j := 0) (k := 13) (m := 80) rfl
        cases eb15.symm.trans ex16
        have o17 : vp_in v1 80 := vi_of rfl (by omega) (by omega)
        refine ⟨o17, ?_⟩
        have t18 : 0 ≤ ((I b15 v1.toNatClampNeg) &&& (255 : Int32)).toInt ∧ ((I b15 v1.toNatClampNeg) &&& (255 : Int32)).toInt < 2 ^ 8 := i_and (n := 8) (by decide)
        exact hQ ((I b15 v1.toNatClampNeg) &&& (255 : Int32)) (by omega)
set_option maxHeartbeats 4000000 in
set_option maxRecDepth 100000 in
theorem s_X3_look {Z : jZ} {I : jI} {L : jL} (w_I : WD Z I) (v0 : Nat) (v1 : Nat) (kv0 : jk Z v0 3) (kv1 : jk Z v1 10) {Q : Int32 → jI → jL → Prop} (hQ : ∀ (r : Int32), (-1 ≤ r.toInt ∧ r.toInt ≤ 255) → Q r I L) : f_X3_look v0 v1 Z I L Q := by
  unfold f_X3_look
  refine ⟨fun c1 => ?_, fun c1 => ?_⟩
  · skip
    first | (have t2 : (I v0 7).toInt ≤ (I v0 6).toInt := (i_le rfl rfl).mp c1) | (have t2 : (I v0 7).toInt ≤ (I v0 6).toInt := (i_le rfl rfl).mp c1) | skip
    have t3 : (-1 : Int32).toInt = -1 := rfl
    exact hQ (-1 : Int32) (by omega)
  · skip
    first | (have t4 : ¬ ((I v0 7).toInt ≤ (I v0 6).toInt) := (not_congr (i_le rfl rfl)).mp c1) | (have t4 : ¬ ((I v0 7).toInt ≤ (I v0 6).toInt) := (not_congr (i_le rfl rfl)).mp c1) | skip
    refine s_X10_signAt w_I v1 (I v0 6) kv1   (fun r5 p6 => ?_)
    have rr5 := i_rng r5
    exact hQ r5 (by omega)
set_option maxHeartbeats 4000000 in
set_option maxRecDepth 100000 in
theorem s_X3_isAhead {Z : jZ} {I : jI} {L : jL} (w_I : WD Z I) (v0 : Nat) (v1 : Nat) (v2 : Int32) (v3 : Int32) (kv0 : jk Z v0 3) (kv1 : jk Z v1 10) {Q : Int32 → jI → jL → Prop} (hQ : ∀ (r : Int32), Q r I L) : f_X3_isAhead v0 v1 v2 v3 Z I L Q := by
  unfold f_X3_isAhead
  have rv2 := i_rng v2
  have rv3 := i_rng v3
  refine s_X3_look w_I v0 v1 kv0 kv1   (fun r1 p2 => ?_)
  have rr1 := i_rng r1
  refine ⟨fun c3 => ?_, fun c3 => ?_⟩
  · skip
    first | (have t4 : ¬ ((I v0 8).toInt = (-1)) := (not_congr (i_eq rfl (show (-1 : Int32).toInt = -1 from rfl))).mp c3) | (have t4 : ¬ ((I v0 8).toInt = (-1 : Int32).toInt) := (not_congr (i_eq rfl rfl)).mp c3) | skip
    have t5 : (0 : Int32).toInt = 0 := rfl
    exact hQ (0 : Int32) 
  · skip
    first | (have t6 : (I v0 8).toInt = (-1) := (i_eq rfl (show (-1 : Int32).toInt = -1 from rfl)).mp c3) | (have t6 : (I v0 8).toInt = (-1 : Int32).toInt := (i_eq rfl rfl).mp c3) | skip
    refine ⟨fun c7 => ?_, fun c7 => ?_⟩
    · skip
      first | (have t8 : r1.toInt = v2.toInt := (i_eq rfl rfl).mp c7) | (have t8 : r1.toInt = v2.toInt := (i_eq rfl rfl).mp c7) | skip
      unfold f_X3_isAhead_b27
      have t9 : (1 : Int32).toInt = 1 := rfl
      exact hQ (1 : Int32) 
    · skip
      first | (have t10 : ¬ (r1.toInt = v2.toInt) := (not_congr (i_eq rfl rfl)).mp c7) | (have t10 : ¬ (r1.toInt = v2.toInt) := (not_congr (i_eq rfl rfl)).mp c7) | skip
      refine ⟨fun c11 => ?_, fun c11 => ?_⟩
      · skip
        first | (have t12 : ¬ (r1.toInt = v3.toInt) := (not_congr (i_eq rfl rfl)).mp c11) | (have t12 : ¬ (r1.toInt = v3.toInt) := (not_congr (i_eq rfl rfl)).mp c11) | skip
        have t13 : (0 : Int32).toInt = 0 := rfl
        exact hQ (0 : Int32) 
      · skip
        first | (have t14 : r1.toInt = v3.toInt := (i_eq rfl rfl).mp c11) | (have t14 : r1.toInt = v3.toInt := (i_eq rfl rfl).mp c11) | skip
        unfold f_X3_isAhead_b27
        have t15 : (1 : Int32).toInt = 1 := rfl
        exact hQ (1 : Int32) 
set_option maxHeartbeats 4000000 in
set_option maxRecDepth 100000 in
theorem s_X10_isDigit {Z : jZ} {I : jI} {L : jL} (w_I : WD Z I) (v0 : Int32) {Q : Int32 → jI → jL → Prop} (hQ : ∀ (r : Int32), (r.toInt = 0 ∨ (48 ≤ v0.toInt ∧ v0.toInt ≤ 57)) → Q r I L) : f_X10_isDigit v0 Z I L Q := by
  unfold f_X10_isDigit
  have rv0 := i_rng v0
  refine ⟨fun c1 => ?_, fun c1 => ?_⟩
  · skip
    first | (have t2 : v0.toInt < (48) := (i_lt rfl (show (48 : Int32).toInt = 48 from rfl)).mp c1) | (have t2 : v0.toInt < (48 : Int32).toInt := (i_lt rfl rfl).mp c1) | skip
    have t3 : (0 : Int32).toInt = 0 := rfl
    exact hQ (0 : Int32) (by omega)
  · skip
    first | (have t4 : ¬ (v0.toInt < (48)) := (not_congr (i_lt rfl (show (48 : Int32).toInt = 48 from rfl))).mp c1) | (have t4 : ¬ (v0.toInt < (48 : Int32).toInt) := (not_congr (i_lt rfl rfl)).mp c1) | skip
    refine ⟨fun c5 => ?_, fun c5 => ?_⟩
    · skip
      first | (have t6 : (57) < v0.toInt := (i_lt (show (57 : Int32).toInt = 57 from rfl) rfl).mp c5) | (have t6 : (57 : Int32).toInt < v0.toInt := (i_lt rfl rfl).mp c5) | skip
      have t7 : (0 : Int32).toInt = 0 := rfl
      exact hQ (0 : Int32) (by omega)
    · skip
      first | (have t8 : ¬ ((57) < v0.toInt) := (not_congr (i_lt (show (57 : Int32).toInt = 57 from rfl) rfl)).mp c5) | (have t8 : ¬ ((57 : Int32).toInt < v0.toInt) := (not_congr (i_lt rfl rfl)).mp c5) | skip
      have t9 : (1 : Int32).toInt = 1 := rfl
      exact hQ (1 : Int32) (by omega)
def Ws_X3_emit : List (Nat × Nat) := [(3, 1), (3, 5)]
set_option maxHeartbeats 4000000 in
set_option maxRecDepth 100000 in
theorem s_X3_emit {Z : jZ} {I : jI} {L : jL} (w_I : WD Z I) (v0 : Nat) (v1 : Int32) (kv0 : jk Z v0 3) {Q : jI → jL → Prop} (hQ : ∀  (I' : jI) (L' : jL), WD Z I' → FR Ws_X3_emit Z I Z I' → Q I' L') : f_X3_emit v0 v1 Z I L Q := by
  unfold f_X3_emit
  have q_I : FR Ws_X3_emit Z I Z I := FR.rf
  have rv1 := i_rng v1
  refine ⟨fun c1 => ?_, fun c1 => ?_⟩
  · skip
    first | (have t2 : ¬ ((I v0 8).toInt = (-1)) := (not_congr (i_eq rfl (show (-1 : Int32).toInt = -1 from rfl))).mp c1) | (have t2 : ¬ ((I v0 8).toInt = (-1 : Int32).toInt) := (not_congr (i_eq rfl rfl)).mp c1) | skip
    exact hQ  I L w_I q_I 
  · skip
    first | (have t3 : (I v0 8).toInt = (-1) := (i_eq rfl (show (-1 : Int32).toInt = -1 from rfl)).mp c1) | (have t3 : (I v0 8).toInt = (-1 : Int32).toInt := (i_eq rfl rfl).mp c1) | skip
    have t5 : 0 ≤ (I v0 5).toInt ∧ (I v0 5).toInt ≤ 40 := w_I.fld 3 5 kv0 (by decide)
    refine ⟨fun c6 => ?_, fun c6 => ?_⟩
    · skip
      first | (have t7 : (40) ≤ (I v0 5).toInt := (i_le (show (40 : Int32).toInt = 40 from rfl) rfl).mp c6) | (have t7 : (40 : Int32).toInt ≤ (I v0 5).toInt := (i_le rfl rfl).mp c6) | skip
      exact hQ  I L w_I q_I 
    · skip
      first | (have t8 : ¬ ((40) ≤ (I v0 5).toInt) := (not_congr (i_le (show (40 : Int32).toInt = 40 from rfl) rfl)).mp c6) | (have t8 : ¬ ((40 : Int32).toInt ≤ (I v0 5).toInt) := (not_congr (i_le rfl rfl)).mp c6) | skip
      intro b9 eb9
      obtain ⟨x10, ex10, kb9, lb9⟩ := sh_f w_I.1 kv0 (j := 1) (k := 14) (m := 40) rfl
      cases eb9.symm.trans ex10
      have t12 : 0 ≤ (I v0 5).toInt ∧ (I v0 5).toInt ≤ 40 := w_I.fld 3 5 kv0 (by decide)
      have o13 : vp_in (I v0 5) 40 := vi_of rfl (by omega) (by omega)
      refine ⟨o13, ?_⟩
      intro I14 eI14
      have w_I14 : WD Z I14 := by rw [eI14]; exact WD_putA w_I 3 1 kv0 eb9 kb9 rfl rfl (by decide) trivial
      have f_I14 : FR [(3, 1)] Z I Z I14 := by rw [eI14]; exact FR_upA w_I.2.1 kv0 eb9 kb9 rfl rfl List.mem_cons_self
      have q_I14 : FR Ws_X3_emit Z I Z I14 := q_I.trans w_I.1 w_I.2.1 (f_I14.mono (by decide))
      have u15 : (I14 v0 8).toInt = (I v0 8).toInt := by rw [f_I14.2.2.1 v0 3 8 kv0 (by decide) (by decide)]
      have u16 : (I14 v0 5).toInt = (I v0 5).toInt := by rw [f_I14.2.2.1 v0 3 5 kv0 (by decide) (by decide)]
      have t18 : 0 ≤ (I14 v0 5).toInt ∧ (I14 v0 5).toInt ≤ 40 := w_I14.fld 3 5 kv0 (by decide)
      intro I19 eI19
      try (have t20 : ((I14 v0 5) + (1 : Int32)).toInt = ((I14 v0 5).toInt + (1)) := (i_add rfl (show (1 : Int32).toInt = 1 from rfl) (by omega) (by omega)))
      have w_I19 : WD Z I19 := by rw [eI19]; exact WD_putF w_I14 3 5 kv0 (by decide) (by decide) (by constructor <;> omega)
      have f_I19 : FR [(3, 5)] Z I14 Z I19 := by rw [eI19]; exact FR_putF kv0 (by decide) List.mem_cons_self
      have q_I19 : FR Ws_X3_emit Z I Z I19 := q_I14.trans w_I.1 w_I.2.1 (f_I19.mono (by decide))
      have u21 : (I19 v0 8).toInt = (I14 v0 8).toInt := by rw [f_I19.2.2.1 v0 3 8 kv0 (by decide) (by decide)]
      first | (have u22 : (I19 v0 5).toInt = ((I14 v0 5).toInt + (1)) := by (rw [eI19, show jpI I14 v0 5 ((I14 v0 5) + (1 : Int32)) v0 5 = ((I14 v0 5) + (1 : Int32)) from jpI_at] <;> exact (i_add rfl (show (1 : Int32).toInt = 1 from rfl) (by omega) (by omega)))) | skip
      exact hQ  I19 L w_I19 q_I19 
def Ws_X3_readNumber : List (Nat × Nat) := [(3, 1), (3, 5), (3, 6)]
set_option maxHeartbeats 4000000 in
set_option maxRecDepth 100000 in
theorem l_X3_readNumber_L4 {Z : jZ} {I0 : jI} {Q : jI → jL → Prop} (w0 : WD Z I0) (v0 : Nat) (v1 : Nat) (kv0 : jk Z v0 3) (kv1 : jk Z v1 10) (hQ : ∀  (I' : jI) (L' : jL), WD Z I' → FR Ws_X3_readNumber Z I0 Z I' → Q I' L') : ∀ (n : Nat) (v2 : Int32) (v3 : Int32) (I : jI) (L : jL), WD Z I → FR Ws_X3_readNumber Z I0 Z I →   (0 ≤ v3.toInt ∧ v3.toInt ≤ 3) → 3 - v3.toInt < (n : Int) → f_X3_readNumber_L4  Z Q n v0 v1 v2 v3 I L := by
  intro n
  induction n with
  | zero =>
    intro v2 v3 I L w_I q_I   li  me
    exfalso
    omega
  | succ n ih =>
    intro v2 v3 I L w_I q_I   li  me
    unfold f_X3_readNumber_L4
    have rv2 := i_rng v2
    have rv3 := i_rng v3
    refine ⟨fun c1 => ?_, fun c1 => ?_⟩
    · skip
      first | (have t2 : (3) ≤ v3.toInt := (i_le (show (3 : Int32).toInt = 3 from rfl) rfl).mp c1) | (have t2 : (3 : Int32).toInt ≤ v3.toInt := (i_le rfl rfl).mp c1) | skip
      unfold f_X3_readNumber_b50
      refine s_X3_emit w_I v0 v2 kv0   (fun  I3 L4 w_I3 f_I3  => ?_)
      have q_I3 : FR Ws_X3_readNumber Z I0 Z I3 := q_I.trans w0.1 w0.2.1 (f_I3.mono (by decide))
      exact hQ  I3 L4 w_I3 q_I3 
    · skip
      first | (have t5 : ¬ ((3) ≤ v3.toInt) := (not_congr (i_le (show (3 : Int32).toInt = 3 from rfl) rfl)).mp c1) | (have t5 : ¬ ((3 : Int32).toInt ≤ v3.toInt) := (not_congr (i_le rfl rfl)).mp c1) | skip
      refine s_X3_look w_I v0 v1 kv0 kv1   (fun r6 p7 => ?_)
      have rr6 := i_rng r6
      refine s_X10_isDigit w_I r6    (fun r8 p9 => ?_)
      have rr8 := i_rng r8
      refine ⟨fun c10 => ?_, fun c10 => ?_⟩
      · skip
        first | (have t11 : r8.toInt = (0) := (i_eq rfl (show (0 : Int32).toInt = 0 from rfl)).mp c10) | (have t11 : r8.toInt = (0 : Int32).toInt := (i_eq rfl rfl).mp c10) | skip
        unfold f_X3_readNumber_b50
        refine s_X3_emit w_I v0 v2 kv0   (fun  I12 L13 w_I12 f_I12  => ?_)
        have q_I12 : FR Ws_X3_readNumber Z I0 Z I12 := q_I.trans w0.1 w0.2.1 (f_I12.mono (by decide))
        exact hQ  I12 L13 w_I12 q_I12 
      · skip
        first | (have t14 : ¬ (r8.toInt = (0)) := (not_congr (i_eq rfl (show (0 : Int32).toInt = 0 from rfl))).mp c10) | (have t14 : ¬ (r8.toInt = (0 : Int32).toInt) := (not_congr (i_eq rfl rfl)).mp c10) | skip
        refine s_X3_look w_I v0 v1 kv0 kv1   (fun r15 p16 => ?_)
        have rr15 := i_rng r15
        intro x17 ex17
        have rx17 := i_rng x17
        first | (have tx17 : x17.toInt = (((v2.toInt * (10)) + r15.toInt) - (48)) := by (rw [ex17]; exact (i_sub (i_add (i_mul rfl (show (10 : Int32).toInt = 10 from rfl) (by omega) (by omega)) rfl (by omega) (by omega)) (show (48 : Int32).toInt = 48 from rfl) (by omega) (by omega)))) | (have tx17 : x17.toInt = (((v2 * (10 : Int32)) + r15) - (48 : Int32)).toInt := by rw [ex17])
        intro I18 eI18
        try (have t19 : ((I v0 6) + (1 : Int32)).toInt = ((I v0 6).toInt + (1)) := (i_add rfl (show (1 : Int32).toInt = 1 from rfl) (by omega) (by omega)))
        have w_I18 : WD Z I18 := by rw [eI18]; exact WD_putF w_I 3 6 kv0 (by decide) (by decide) trivial
        have f_I18 : FR [(3, 6)] Z I Z I18 := by rw [eI18]; exact FR_putF kv0 (by decide) List.mem_cons_self
        have q_I18 : FR Ws_X3_readNumber Z I0 Z I18 := q_I.trans w0.1 w0.2.1 (f_I18.mono (by decide))
        first | (have u20 : (I18 v0 6).toInt = ((I v0 6).toInt + (1)) := by (rw [eI18, show jpI I v0 6 ((I v0 6) + (1 : Int32)) v0 6 = ((I v0 6) + (1 : Int32)) from jpI_at] <;> exact (i_add rfl (show (1 : Int32).toInt = 1 from rfl) (by omega) (by omega)))) | skip
        intro x21 ex21
        have rx21 := i_rng x21
        first | (have tx21 : x21.toInt = v3.toInt + (1) := by (rw [ex21]; exact (i_add rfl (show (1 : Int32).toInt = 1 from rfl) (by omega) (by omega)))) | skip
        exact ih x17 x21 I18 L w_I18 q_I18   (by omega)  (by omega)
set_option maxHeartbeats 4000000 in
set_option maxRecDepth 100000 in
theorem s_X3_readNumber {Z : jZ} {I : jI} {L : jL} (w_I : WD Z I) (v0 : Nat) (v1 : Nat) (kv0 : jk Z v0 3) (kv1 : jk Z v1 10) {Q : jI → jL → Prop} (hQ : ∀  (I' : jI) (L' : jL), WD Z I' → FR Ws_X3_readNumber Z I Z I' → Q I' L') : f_X3_readNumber v0 v1 Z I L Q := by
  unfold f_X3_readNumber
  have q_I : FR Ws_X3_readNumber Z I Z I := FR.rf
  have t22 : (0 : Int32).toInt = 0 := rfl
  have t23 : (0 : Int32).toInt = 0 := rfl
  exact ⟨(3 - (0 : Int32).toInt).toNat + 1, l_X3_readNumber_L4 w_I v0 v1 kv0 kv1   hQ   _ (0 : Int32) (0 : Int32) I L w_I q_I   (by omega)  (by omega)⟩
def Ws_X3_readClosing : List (Nat × Nat) := [(3, 6), (3, 8)]
set_option maxHeartbeats 4000000 in
set_option maxRecDepth 100000 in
theorem s_X3_readClosing {Z : jZ} {I : jI} {L : jL} (w_I : WD Z I) (v0 : Nat) (v1 : Nat) (kv0 : jk Z v0 3) (kv1 : jk Z v1 10) {Q : jI → jL → Prop} (hQ : ∀  (I' : jI) (L' : jL), WD Z I' → FR Ws_X3_readClosing Z I Z I' → Q I' L') : f_X3_readClosing v0 v1 Z I L Q := by
  unfold f_X3_readClosing
  have q_I : FR Ws_X3_readClosing Z I Z I := FR.rf
  have t1 : (41 : Int32).toInt = 41 := rfl
  have t2 : (41 : Int32).toInt = 41 := rfl
  refine s_X3_isAhead w_I v0 v1 (41 : Int32) (41 : Int32) kv0 kv1   (fun r3  => ?_)
  have rr3 := i_rng r3
  refine ⟨fun c4 => ?_, fun c4 => ?_⟩
  · skip
    first | (have t5 : r3.toInt = (0) := (i_eq rfl (show (0 : Int32).toInt = 0 from rfl)).mp c4) | (have t5 : r3.toInt = (0 : Int32).toInt := (i_eq rfl rfl).mp c4) | skip
    refine ⟨fun c6 => ?_, fun c6 => ?_⟩
    · skip
      first | (have t7 : ¬ ((I v0 8).toInt = (-1)) := (not_congr (i_eq rfl (show (-1 : Int32).toInt = -1 from rfl))).mp c6) | (have t7 : ¬ ((I v0 8).toInt = (-1 : Int32).toInt) := (not_congr (i_eq rfl rfl)).mp c6) | skip
      exact hQ  I L w_I q_I 
    · skip
      first | (have t8 : (I v0 8).toInt = (-1) := (i_eq rfl (show (-1 : Int32).toInt = -1 from rfl)).mp c6) | (have t8 : (I v0 8).toInt = (-1 : Int32).toInt := (i_eq rfl rfl).mp c6) | skip
      intro I9 eI9
      have w_I9 : WD Z I9 := by rw [eI9]; exact WD_putF w_I 3 8 kv0 (by decide) (by decide) trivial
      have f_I9 : FR [(3, 8)] Z I Z I9 := by rw [eI9]; exact FR_putF kv0 (by decide) List.mem_cons_self
      have q_I9 : FR Ws_X3_readClosing Z I Z I9 := q_I.trans w_I.1 w_I.2.1 (f_I9.mono (by decide))
      have u10 : (I9 v0 6).toInt = (I v0 6).toInt := by rw [f_I9.2.2.1 v0 3 6 kv0 (by decide) (by decide)]
      first | (have u11 : (I9 v0 8).toInt = (I v0 6).toInt := by (rw [eI9, show jpI I v0 8 (I v0 6) v0 8 = (I v0 6) from jpI_at] <;> exact rfl)) | skip
      exact hQ  I9 L w_I9 q_I9 
  · skip
    first | (have t12 : ¬ (r3.toInt = (0)) := (not_congr (i_eq rfl (show (0 : Int32).toInt = 0 from rfl))).mp c4) | (have t12 : ¬ (r3.toInt = (0 : Int32).toInt) := (not_congr (i_eq rfl rfl)).mp c4) | skip
    intro I13 eI13
    try (have t14 : ((I v0 6) + (1 : Int32)).toInt = ((I v0 6).toInt + (1)) := (i_add rfl (show (1 : Int32).toInt = 1 from rfl) (by omega) (by omega)))
    have w_I13 : WD Z I13 := by rw [eI13]; exact WD_putF w_I 3 6 kv0 (by decide) (by decide) trivial
    have f_I13 : FR [(3, 6)] Z I Z I13 := by rw [eI13]; exact FR_putF kv0 (by decide) List.mem_cons_self
    have q_I13 : FR Ws_X3_readClosing Z I Z I13 := q_I.trans w_I.1 w_I.2.1 (f_I13.mono (by decide))
    first | (have u15 : (I13 v0 6).toInt = ((I v0 6).toInt + (1)) := by (rw [eI13, show jpI I v0 6 ((I v0 6) + (1 : Int32)) v0 6 = ((I v0 6) + (1 : Int32)) from jpI_at] <;> exact (i_add rfl (show (1 : Int32).toInt = 1 from rfl) (by omega) (by omega)))) | skip
    exact hQ  I13 L w_I13 q_I13 
set_option maxHeartbeats 4000000 in
set_option maxRecDepth 100000 in
theorem s_X3_join {Z : jZ} {I : jI} {L : jL} (w_I : WD Z I) (v0 : Int32) (v1 : Int32) (v2 : Int32) {Q : Int32 → jI → jL → Prop} (hQ : ∀ (r : Int32), Q r I L) : f_X3_join v0 v1 v2 Z I L Q := by
  unfold f_X3_join
  have rv0 := i_rng v0
  have rv1 := i_rng v1
  have rv2 := i_rng v2
  refine ⟨fun c1 => ?_, fun c1 => ?_⟩
  · skip
    first | (have t2 : v0.toInt = (42) := (i_eq rfl (show (42 : Int32).toInt = 42 from rfl)).mp c1) | (have t2 : v0.toInt = (42 : Int32).toInt := (i_eq rfl rfl).mp c1) | skip
    exact hQ (v1 * v2) 
  · skip
    first | (have t3 : ¬ (v0.toInt = (42)) := (not_congr (i_eq rfl (show (42 : Int32).toInt = 42 from rfl))).mp c1) | (have t3 : ¬ (v0.toInt = (42 : Int32).toInt) := (not_congr (i_eq rfl rfl)).mp c1) | skip
    refine ⟨fun c4 => ?_, fun c4 => ?_⟩
    · skip
      first | (have t5 : v0.toInt = (43) := (i_eq rfl (show (43 : Int32).toInt = 43 from rfl)).mp c4) | (have t5 : v0.toInt = (43 : Int32).toInt := (i_eq rfl rfl).mp c4) | skip
      try (have t6 : (v1 + v2).toInt = (v1.toInt + v2.toInt) := (i_add rfl rfl (by omega) (by omega)))
      exact hQ (v1 + v2) 
    · skip
      first | (have t7 : ¬ (v0.toInt = (43)) := (not_congr (i_eq rfl (show (43 : Int32).toInt = 43 from rfl))).mp c4) | (have t7 : ¬ (v0.toInt = (43 : Int32).toInt) := (not_congr (i_eq rfl rfl)).mp c4) | skip
      refine ⟨fun c8 => ?_, fun c8 => ?_⟩
      · skip
        first | (have t9 : v0.toInt = (45) := (i_eq rfl (show (45 : Int32).toInt = 45 from rfl)).mp c8) | (have t9 : v0.toInt = (45 : Int32).toInt := (i_eq rfl rfl).mp c8) | skip
        try (have t10 : (v1 - v2).toInt = (v1.toInt - v2.toInt) := (i_sub rfl rfl (by omega) (by omega)))
        exact hQ (v1 - v2) 
      · skip
        first | (have t11 : ¬ (v0.toInt = (45)) := (not_congr (i_eq rfl (show (45 : Int32).toInt = 45 from rfl))).mp c8) | (have t11 : ¬ (v0.toInt = (45 : Int32).toInt) := (not_congr (i_eq rfl rfl)).mp c8) | skip
        refine ⟨fun c12 => ?_, fun c12 => ?_⟩
        · skip
          first | (have t13 : v0.toInt = (60) := (i_eq rfl (show (60 : Int32).toInt = 60 from rfl)).mp c12) | (have t13 : v0.toInt = (60 : Int32).toInt := (i_eq rfl rfl).mp c12) | skip
          refine ⟨fun c14 => ?_, fun c14 => ?_⟩
          · skip
            first | (have t15 : v2.toInt ≤ v1.toInt := (i_le rfl rfl).mp c14) | (have t15 : v2.toInt ≤ v1.toInt := (i_le rfl rfl).mp c14) | skip
            have t16 : (0 : Int32).toInt = 0 := rfl
            exact hQ (0 : Int32) 
          · skip
            first | (have t17 : ¬ (v2.toInt ≤ v1.toInt) := (not_congr (i_le rfl rfl)).mp c14) | (have t17 : ¬ (v2.toInt ≤ v1.toInt) := (not_congr (i_le rfl rfl)).mp c14) | skip
            have t18 : (1 : Int32).toInt = 1 := rfl
            exact hQ (1 : Int32) 
        · skip
          first | (have t19 : ¬ (v0.toInt = (60)) := (not_congr (i_eq rfl (show (60 : Int32).toInt = 60 from rfl))).mp c12) | (have t19 : ¬ (v0.toInt = (60 : Int32).toInt) := (not_congr (i_eq rfl rfl)).mp c12) | skip
          refine ⟨fun c20 => ?_, fun c20 => ?_⟩
          · skip
            first | (have t21 : v0.toInt = (61) := (i_eq rfl (show (61 : Int32).toInt = 61 from rfl)).mp c20) | (have t21 : v0.toInt = (61 : Int32).toInt := (i_eq rfl rfl).mp c20) | skip
            refine ⟨fun c22 => ?_, fun c22 => ?_⟩
            · skip
              first | (have t23 : ¬ (v1.toInt = v2.toInt) := (not_congr (i_eq rfl rfl)).mp c22) | (have t23 : ¬ (v1.toInt = v2.toInt) := (not_congr (i_eq rfl rfl)).mp c22) | skip
              have t24 : (0 : Int32).toInt = 0 := rfl
              exact hQ (0 : Int32) 
            · skip
              first | (have t25 : v1.toInt = v2.toInt := (i_eq rfl rfl).mp c22) | (have t25 : v1.toInt = v2.toInt := (i_eq rfl rfl).mp c22) | skip
              have t26 : (1 : Int32).toInt = 1 := rfl
              exact hQ (1 : Int32) 
          · skip
            first | (have t27 : ¬ (v0.toInt = (61)) := (not_congr (i_eq rfl (show (61 : Int32).toInt = 61 from rfl))).mp c20) | (have t27 : ¬ (v0.toInt = (61 : Int32).toInt) := (not_congr (i_eq rfl rfl)).mp c20) | skip
            refine ⟨fun c28 => ?_, fun c28 => ?_⟩
            · skip
              first | (have t29 : v0.toInt = (62) := (i_eq rfl (show (62 : Int32).toInt = 62 from rfl)).mp c28) | (have t29 : v0.toInt = (62 : Int32).toInt := (i_eq rfl rfl).mp c28) | skip
              refine ⟨fun c30 => ?_, fun c30 => ?_⟩
              · skip
                first | (have t31 : v1.toInt ≤ v2.toInt := (i_le rfl rfl).mp c30) | (have t31 : v1.toInt ≤ v2.toInt := (i_le rfl rfl).mp c30) | skip
                have t32 : (0 : Int32).toInt = 0 := rfl
                exact hQ (0 : Int32) 
              · skip
                first | (have t33 : ¬ (v1.toInt ≤ v2.toInt) := (not_congr (i_le rfl rfl)).mp c30) | (have t33 : ¬ (v1.toInt ≤ v2.toInt) := (not_congr (i_le rfl rfl)).mp c30) | skip
                have t34 : (1 : Int32).toInt = 1 := rfl
                exact hQ (1 : Int32) 
            · skip
              first | (have t35 : ¬ (v0.toInt = (62)) := (not_congr (i_eq rfl (show (62 : Int32).toInt = 62 from rfl))).mp c28) | (have t35 : ¬ (v0.toInt = (62 : Int32).toInt) := (not_congr (i_eq rfl rfl)).mp c28) | skip
              refine ⟨fun c36 => ?_, fun c36 => ?_⟩
              · skip
                first | (have t37 : ¬ (v2.toInt = (0)) := (not_congr (i_eq rfl (show (0 : Int32).toInt = 0 from rfl))).mp c36) | (have t37 : ¬ (v2.toInt = (0 : Int32).toInt) := (not_congr (i_eq rfl rfl)).mp c36) | skip
                refine ⟨(not_congr (i_eq rfl (show (0 : Int32).toInt = 0 from rfl))).mpr (by omega), ?_⟩
                exact hQ (v1 / v2) 
              · skip
                first | (have t38 : v2.toInt = (0) := (i_eq rfl (show (0 : Int32).toInt = 0 from rfl)).mp c36) | (have t38 : v2.toInt = (0 : Int32).toInt := (i_eq rfl rfl).mp c36) | skip
                have t39 : (0 : Int32).toInt = 0 := rfl
                exact hQ (0 : Int32) 
def Ws_X3_priceFor : List (Nat × Nat) := [(3, 2)]
set_option maxHeartbeats 4000000 in
set_option maxRecDepth 100000 in
theorem l_X3_priceFor_L4 {Z : jZ} {I0 : jI} {Q : Int32 → jI → jL → Prop} (w0 : WD Z I0) (v0 : Nat) (v1 : Nat) (kv0 : jk Z v0 3) (kv1 : jk Z v1 14) (o1_ c1_ j1_ : Nat) (ho1 : jk Z o1_ c1_) (hr1 : jr Z o1_ j1_ = some v1) (p0 : jlen Z v1 ≤ 1000) (hQ : ∀ (r : Int32) (I' : jI) (L' : jL), WD Z I' → FR Ws_X3_priceFor Z I0 Z I' → (0 ≤ r.toInt ∧ r.toInt ≤ 99) → Q r I' L') : ∀ (n : Nat) (v2 : Int32) (v3 : Int32) (I : jI) (L : jL), WD Z I → FR Ws_X3_priceFor Z I0 Z I →   (0 ≤ v2.toInt ∧ v2.toInt ≤ v3.toInt ∧ v3.toInt ≤ 40) → 40 - v3.toInt < (n : Int) → f_X3_priceFor_L4  Z Q n v0 v1 v2 v3 I L := by
  intro n
  induction n with
  | zero =>
    intro v2 v3 I L w_I q_I   li  me
    exfalso
    omega
  | succ n ih =>
    intro v2 v3 I L w_I q_I   li  me
    unfold f_X3_priceFor_L4
    have rv2 := i_rng v2
    have rv3 := i_rng v3
    have t2 : 0 ≤ (I v0 3).toInt ∧ (I v0 3).toInt ≤ 40 := w_I.fld 3 3 kv0 (by decide)
    refine ⟨fun c3 => ?_, fun c3 => ?_⟩
    · skip
      first | (have t4 : (I v0 3).toInt ≤ v3.toInt := (i_le rfl rfl).mp c3) | (have t4 : (I v0 3).toInt ≤ v3.toInt := (i_le rfl rfl).mp c3) | skip
      unfold f_X3_priceFor_b156
      refine ⟨fun c5 => ?_, fun c5 => ?_⟩
      · skip
        first | (have t6 : ¬ (v2.toInt = (0)) := (not_congr (i_eq rfl (show (0 : Int32).toInt = 0 from rfl))).mp c5) | (have t6 : ¬ (v2.toInt = (0 : Int32).toInt) := (not_congr (i_eq rfl rfl)).mp c5) | skip
        intro b7 eb7
        obtain ⟨x8, ex8, kb7, lb7⟩ := sh_f w_I.1 kv0 (j := 2) (k := 14) (m := 41) rfl
        cases eb7.symm.trans ex8
        have o9 : vp_in (v2 - (1 : Int32)) 41 := vi_of (i_sub rfl (show (1 : Int32).toInt = 1 from rfl) (by omega) (by omega)) (by omega) (by omega)
        refine ⟨o9, ?_⟩
        try (have t10 : (if (0 : Int32) < (if (I b7 (v2 - (1 : Int32)).toNatClampNeg) < (99 : Int32) then (I b7 (v2 - (1 : Int32)).toNatClampNeg) else (99 : Int32)) then (if (I b7 (v2 - (1 : Int32)).toNatClampNeg) < (99 : Int32) then (I b7 (v2 - (1 : Int32)).toNatClampNeg) else (99 : Int32)) else (0 : Int32)).toInt = (max (0) (min (99) (I b7 (v2 - (1 : Int32)).toNatClampNeg).toInt)) := (i_max (show (0 : Int32).toInt = 0 from rfl) (i_min (show (99 : Int32).toInt = 99 from rfl) rfl)))
        exact hQ (if (0 : Int32) < (if (I b7 (v2 - (1 : Int32)).toNatClampNeg) < (99 : Int32) then (I b7 (v2 - (1 : Int32)).toNatClampNeg) else (99 : Int32)) then (if (I b7 (v2 - (1 : Int32)).toNatClampNeg) < (99 : Int32) then (I b7 (v2 - (1 : Int32)).toNatClampNeg) else (99 : Int32)) else (0 : Int32)) I L w_I q_I (by omega)
      · skip
        first | (have t11 : v2.toInt = (0) := (i_eq rfl (show (0 : Int32).toInt = 0 from rfl)).mp c5) | (have t11 : v2.toInt = (0 : Int32).toInt := (i_eq rfl rfl).mp c5) | skip
        have t12 : (0 : Int32).toInt = 0 := rfl
        exact hQ (0 : Int32) I L w_I q_I (by omega)
    · skip
      first | (have t13 : ¬ ((I v0 3).toInt ≤ v3.toInt) := (not_congr (i_le rfl rfl)).mp c3) | (have t13 : ¬ ((I v0 3).toInt ≤ v3.toInt) := (not_congr (i_le rfl rfl)).mp c3) | skip
      refine ⟨fun c14 => ?_, fun c14 => ?_⟩
      · skip
        first | (have t15 : (40) ≤ v3.toInt := (i_le (show (40 : Int32).toInt = 40 from rfl) rfl).mp c14) | (have t15 : (40 : Int32).toInt ≤ v3.toInt := (i_le rfl rfl).mp c14) | skip
        unfold f_X3_priceFor_b156
        refine ⟨fun c16 => ?_, fun c16 => ?_⟩
        · skip
          first | (have t17 : ¬ (v2.toInt = (0)) := (not_congr (i_eq rfl (show (0 : Int32).toInt = 0 from rfl))).mp c16) | (have t17 : ¬ (v2.toInt = (0 : Int32).toInt) := (not_congr (i_eq rfl rfl)).mp c16) | skip
          intro b18 eb18
          obtain ⟨x19, ex19, kb18, lb18⟩ := sh_f w_I.1 kv0 (j := 2) (k := 14) (m := 41) rfl
          cases eb18.symm.trans ex19
          have o20 : vp_in (v2 - (1 : Int32)) 41 := vi_of (i_sub rfl (show (1 : Int32).toInt = 1 from rfl) (by omega) (by omega)) (by omega) (by omega)
          refine ⟨o20, ?_⟩
          try (have t21 : (if (0 : Int32) < (if (I b18 (v2 - (1 : Int32)).toNatClampNeg) < (99 : Int32) then (I b18 (v2 - (1 : Int32)).toNatClampNeg) else (99 : Int32)) then (if (I b18 (v2 - (1 : Int32)).toNatClampNeg) < (99 : Int32) then (I b18 (v2 - (1 : Int32)).toNatClampNeg) else (99 : Int32)) else (0 : Int32)).toInt = (max (0) (min (99) (I b18 (v2 - (1 : Int32)).toNatClampNeg).toInt)) := (i_max (show (0 : Int32).toInt = 0 from rfl) (i_min (show (99 : Int32).toInt = 99 from rfl) rfl)))
          exact hQ (if (0 : Int32) < (if (I b18 (v2 - (1 : Int32)).toNatClampNeg) < (99 : Int32) then (I b18 (v2 - (1 : Int32)).toNatClampNeg) else (99 : Int32)) then (if (I b18 (v2 - (1 : Int32)).toNatClampNeg) < (99 : Int32) then (I b18 (v2 - (1 : Int32)).toNatClampNeg) else (99 : Int32)) else (0 : Int32)) I L w_I q_I (by omega)
        · skip
          first | (have t22 : v2.toInt = (0) := (i_eq rfl (show (0 : Int32).toInt = 0 from rfl)).mp c16) | (have t22 : v2.toInt = (0 : Int32).toInt := (i_eq rfl rfl).mp c16) | skip
          have t23 : (0 : Int32).toInt = 0 := rfl
          exact hQ (0 : Int32) I L w_I q_I (by omega)
      · skip
        first | (have t24 : ¬ ((40) ≤ v3.toInt) := (not_congr (i_le (show (40 : Int32).toInt = 40 from rfl) rfl)).mp c14) | (have t24 : ¬ ((40 : Int32).toInt ≤ v3.toInt) := (not_congr (i_le rfl rfl)).mp c14) | skip
        intro b25 eb25
        obtain ⟨x26, ex26, kb25, lb25⟩ := sh_f w_I.1 kv0 (j := 0) (k := 14) (m := 40) rfl
        cases eb25.symm.trans ex26
        have o27 : vp_in v3 40 := vi_of rfl (by omega) (by omega)
        refine ⟨o27, ?_⟩
        intro x28 ex28
        have rx28 := i_rng x28
        first | (have tx28 : x28.toInt = (I b25 v3.toNatClampNeg).toInt := by (rw [ex28]; exact rfl)) | (have tx28 : x28.toInt = (I b25 v3.toNatClampNeg).toInt := by rw [ex28])
        refine ⟨fun c29 => ?_, fun c29 => ?_⟩
        · skip
          first | (have t30 : (2000) ≤ x28.toInt := (i_le (show (2000 : Int32).toInt = 2000 from rfl) rfl).mp c29) | (have t30 : (2000 : Int32).toInt ≤ x28.toInt := (i_le rfl rfl).mp c29) | skip
          refine ⟨fun c31 => ?_, fun c31 => ?_⟩
          · skip
            first | (have t32 : ¬ (x28.toInt = (2000)) := (not_congr (i_eq rfl (show (2000 : Int32).toInt = 2000 from rfl))).mp c31) | (have t32 : ¬ (x28.toInt = (2000 : Int32).toInt) := (not_congr (i_eq rfl rfl)).mp c31) | skip
            unfold f_X3_priceFor_b111
            refine ⟨fun c33 => ?_, fun c33 => ?_⟩
            · skip
              first | (have t34 : v2.toInt ≤ (1) := (i_le rfl (show (1 : Int32).toInt = 1 from rfl)).mp c33) | (have t34 : v2.toInt ≤ (1 : Int32).toInt := (i_le rfl rfl).mp c33) | skip
              unfold f_X3_priceFor_b150
              intro x35 ex35
              have rx35 := i_rng x35
              first | (have tx35 : x35.toInt = v3.toInt + (1) := by (rw [ex35]; exact (i_add rfl (show (1 : Int32).toInt = 1 from rfl) (by omega) (by omega)))) | skip
              exact ih v2 x35 I L w_I q_I   (by omega)  (by omega)
            · skip
              first | (have t36 : ¬ (v2.toInt ≤ (1)) := (not_congr (i_le rfl (show (1 : Int32).toInt = 1 from rfl))).mp c33) | (have t36 : ¬ (v2.toInt ≤ (1 : Int32).toInt) := (not_congr (i_le rfl rfl)).mp c33) | skip
              intro x37 ex37
              have rx37 := i_rng x37
              first | (have tx37 : x37.toInt = v2.toInt + (-1) := by (rw [ex37]; exact (i_add rfl (show (-1 : Int32).toInt = -1 from rfl) (by omega) (by omega)))) | skip
              intro b38 eb38
              obtain ⟨x39, ex39, kb38, lb38⟩ := sh_f w_I.1 kv0 (j := 2) (k := 14) (m := 41) rfl
              cases eb38.symm.trans ex39
              intro b40 eb40
              obtain rfl : b38 = b40 := Option.some.inj (eb38.symm.trans eb40)
              have o41 : vp_in (x37 - (1 : Int32)) 41 := vi_of (i_sub rfl (show (1 : Int32).toInt = 1 from rfl) (by omega) (by omega)) (by omega) (by omega)
              refine ⟨o41, ?_⟩
              intro b42 eb42
              obtain rfl : b38 = b42 := Option.some.inj (eb38.symm.trans eb42)
              have o43 : vp_in x37 41 := vi_of rfl (by omega) (by omega)
              refine ⟨o43, ?_⟩
              try (have t44 : (x28 - (2000 : Int32)).toInt = (x28.toInt - (2000)) := (i_sub rfl (show (2000 : Int32).toInt = 2000 from rfl) (by omega) (by omega)))
              refine s_X3_join w_I (x28 - (2000 : Int32)) (I b38 (x37 - (1 : Int32)).toNatClampNeg) (I b38 x37.toNatClampNeg)    (fun r45  => ?_)
              have rr45 := i_rng r45
              have o46 : vp_in (x37 - (1 : Int32)) 41 := vi_of (i_sub rfl (show (1 : Int32).toInt = 1 from rfl) (by omega) (by omega)) (by omega) (by omega)
              refine ⟨o46, ?_⟩
              intro I47 eI47
              have w_I47 : WD Z I47 := by rw [eI47]; exact WD_putA w_I 3 2 kv0 eb38 kb38 rfl rfl (by decide) trivial
              have f_I47 : FR [(3, 2)] Z I Z I47 := by rw [eI47]; exact FR_upA w_I.2.1 kv0 eb38 kb38 rfl rfl List.mem_cons_self
              have q_I47 : FR Ws_X3_priceFor Z I0 Z I47 := q_I.trans w0.1 w0.2.1 (f_I47.mono (by decide))
              have u48 : (I47 v0 3).toInt = (I v0 3).toInt := by rw [f_I47.2.2.1 v0 3 3 kv0 (by decide) (by decide)]
              unfold f_X3_priceFor_b150
              intro x49 ex49
              have rx49 := i_rng x49
              first | (have tx49 : x49.toInt = v3.toInt + (1) := by (rw [ex49]; exact (i_add rfl (show (1 : Int32).toInt = 1 from rfl) (by omega) (by omega)))) | skip
              exact ih x37 x49 I47 L w_I47 q_I47   (by omega)  (by omega)
          · skip
            first | (have t50 : x28.toInt = (2000) := (i_eq rfl (show (2000 : Int32).toInt = 2000 from rfl)).mp c31) | (have t50 : x28.toInt = (2000 : Int32).toInt := (i_eq rfl rfl).mp c31) | skip
            refine ⟨fun c51 => ?_, fun c51 => ?_⟩
            · skip
              first | (have t52 : v2.toInt ≤ (0) := (i_le rfl (show (0 : Int32).toInt = 0 from rfl)).mp c51) | (have t52 : v2.toInt ≤ (0 : Int32).toInt := (i_le rfl rfl).mp c51) | skip
              unfold f_X3_priceFor_b111
              refine ⟨fun c53 => ?_, fun c53 => ?_⟩
              · skip
                first | (have t54 : v2.toInt ≤ (1) := (i_le rfl (show (1 : Int32).toInt = 1 from rfl)).mp c53) | (have t54 : v2.toInt ≤ (1 : Int32).toInt := (i_le rfl rfl).mp c53) | skip
                unfold f_X3_priceFor_b150
                intro x55 ex55
                have rx55 := i_rng x55
                first | (have tx55 : x55.toInt = v3.toInt + (1) := by (rw [ex55]; exact (i_add rfl (show (1 : Int32).toInt = 1 from rfl) (by omega) (by omega)))) | skip
                exact ih v2 x55 I L w_I q_I   (by omega)  (by omega)
              · skip
                first | (have t56 : ¬ (v2.toInt ≤ (1)) := (not_congr (i_le rfl (show (1 : Int32).toInt = 1 from rfl))).mp c53) | (have t56 : ¬ (v2.toInt ≤ (1 : Int32).toInt) := (not_congr (i_le rfl rfl)).mp c53) | skip
                intro x57 ex57
                have rx57 := i_rng x57
                first | (have tx57 : x57.toInt = v2.toInt + (-1) := by (rw [ex57]; exact (i_add rfl (show (-1 : Int32).toInt = -1 from rfl) (by omega) (by omega)))) | skip
                intro b58 eb58
                obtain ⟨x59, ex59, kb58, lb58⟩ := sh_f w_I.1 kv0 (j := 2) (k := 14) (m := 41) rfl
                cases eb58.symm.trans ex59
                intro b60 eb60
                obtain rfl : b58 = b60 := Option.some.inj (eb58.symm.trans eb60)
                have o61 : vp_in (x57 - (1 : Int32)) 41 := vi_of (i_sub rfl (show (1 : Int32).toInt = 1 from rfl) (by omega) (by omega)) (by omega) (by omega)
                refine ⟨o61, ?_⟩
                intro b62 eb62
                obtain rfl : b58 = b62 := Option.some.inj (eb58.symm.trans eb62)
                have o63 : vp_in x57 41 := vi_of rfl (by omega) (by omega)
                refine ⟨o63, ?_⟩
                try (have t64 : (x28 - (2000 : Int32)).toInt = (x28.toInt - (2000)) := (i_sub rfl (show (2000 : Int32).toInt = 2000 from rfl) (by omega) (by omega)))
                refine s_X3_join w_I (x28 - (2000 : Int32)) (I b58 (x57 - (1 : Int32)).toNatClampNeg) (I b58 x57.toNatClampNeg)    (fun r65  => ?_)
                have rr65 := i_rng r65
                have o66 : vp_in (x57 - (1 : Int32)) 41 := vi_of (i_sub rfl (show (1 : Int32).toInt = 1 from rfl) (by omega) (by omega)) (by omega) (by omega)
                refine ⟨o66, ?_⟩
                intro I67 eI67
                have w_I67 : WD Z I67 := by rw [eI67]; exact WD_putA w_I 3 2 kv0 eb58 kb58 rfl rfl (by decide) trivial
                have f_I67 : FR [(3, 2)] Z I Z I67 := by rw [eI67]; exact FR_upA w_I.2.1 kv0 eb58 kb58 rfl rfl List.mem_cons_self
                have q_I67 : FR Ws_X3_priceFor Z I0 Z I67 := q_I.trans w0.1 w0.2.1 (f_I67.mono (by decide))
                have u68 : (I67 v0 3).toInt = (I v0 3).toInt := by rw [f_I67.2.2.1 v0 3 3 kv0 (by decide) (by decide)]
                unfold f_X3_priceFor_b150
                intro x69 ex69
                have rx69 := i_rng x69
                first | (have tx69 : x69.toInt = v3.toInt + (1) := by (rw [ex69]; exact (i_add rfl (show (1 : Int32).toInt = 1 from rfl) (by omega) (by omega)))) | skip
                exact ih x57 x69 I67 L w_I67 q_I67   (by omega)  (by omega)
            · skip
              first | (have t70 : ¬ (v2.toInt ≤ (0)) := (not_congr (i_le rfl (show (0 : Int32).toInt = 0 from rfl))).mp c51) | (have t70 : ¬ (v2.toInt ≤ (0 : Int32).toInt) := (not_congr (i_le rfl rfl)).mp c51) | skip
              intro b71 eb71
              obtain ⟨x72, ex72, kb71, lb71⟩ := sh_f w_I.1 kv0 (j := 2) (k := 14) (m := 41) rfl
              cases eb71.symm.trans ex72
              intro b73 eb73
              obtain rfl : b71 = b73 := Option.some.inj (eb71.symm.trans eb73)
              have o74 : vp_in (v2 - (1 : Int32)) 41 := vi_of (i_sub rfl (show (1 : Int32).toInt = 1 from rfl) (by omega) (by omega)) (by omega) (by omega)
              refine ⟨o74, ?_⟩
              have o75 : vp_in (v2 - (1 : Int32)) 41 := vi_of (i_sub rfl (show (1 : Int32).toInt = 1 from rfl) (by omega) (by omega)) (by omega) (by omega)
              refine ⟨o75, ?_⟩
              intro I76 eI76
              try (have t77 : (-(I b71 (v2 - (1 : Int32)).toNatClampNeg)).toInt = (-(I b71 (v2 - (1 : Int32)).toNatClampNeg).toInt) := (i_neg rfl (by omega)))
              have w_I76 : WD Z I76 := by rw [eI76]; exact WD_putA w_I 3 2 kv0 eb71 kb71 rfl rfl (by decide) trivial
              have f_I76 : FR [(3, 2)] Z I Z I76 := by rw [eI76]; exact FR_upA w_I.2.1 kv0 eb71 kb71 rfl rfl List.mem_cons_self
              have q_I76 : FR Ws_X3_priceFor Z I0 Z I76 := q_I.trans w0.1 w0.2.1 (f_I76.mono (by decide))
              have u78 : (I76 v0 3).toInt = (I v0 3).toInt := by rw [f_I76.2.2.1 v0 3 3 kv0 (by decide) (by decide)]
              unfold f_X3_priceFor_b150
              intro x79 ex79
              have rx79 := i_rng x79
              first | (have tx79 : x79.toInt = v3.toInt + (1) := by (rw [ex79]; exact (i_add rfl (show (1 : Int32).toInt = 1 from rfl) (by omega) (by omega)))) | skip
              exact ih v2 x79 I76 L w_I76 q_I76   (by omega)  (by omega)
        · skip
          first | (have t80 : ¬ ((2000) ≤ x28.toInt) := (not_congr (i_le (show (2000 : Int32).toInt = 2000 from rfl) rfl)).mp c29) | (have t80 : ¬ ((2000 : Int32).toInt ≤ x28.toInt) := (not_congr (i_le rfl rfl)).mp c29) | skip
          intro x81 ex81
          have rx81 := i_rng x81
          first | (have tx81 : x81.toInt = (x28.toInt - (1000)) := by (rw [ex81]; exact (i_sub rfl (show (1000 : Int32).toInt = 1000 from rfl) (by omega) (by omega)))) | (have tx81 : x81.toInt = (x28 - (1000 : Int32)).toInt := by rw [ex81])
          intro b82 eb82
          obtain ⟨x83, ex83, kb82, lb82⟩ := sh_f w_I.1 kv0 (j := 2) (k := 14) (m := 41) rfl
          cases eb82.symm.trans ex83
          refine ⟨fun c84 => ?_, fun c84 => ?_⟩
          · skip
            first | (have t85 : (0) ≤ x81.toInt := (i_le (show (0 : Int32).toInt = 0 from rfl) rfl).mp c84) | (have t85 : (0 : Int32).toInt ≤ x81.toInt := (i_le rfl rfl).mp c84) | skip
            refine ⟨fun c86 => ?_, fun c86 => ?_⟩
            · skip
              first | (have t87 : ((jlen Z v1 : Nat) : Int) ≤ x81.toInt := (i_le (i_nI (by omega)) rfl).mp c86) | (have t87 : (nI (jlen Z v1)).toInt ≤ x81.toInt := (i_le rfl rfl).mp c86) | skip
              unfold f_X3_priceFor_b72
              have o88 : vp_in v2 (jlen Z b82) := vi_of rfl (by omega) (by omega)
              refine ⟨o88, ?_⟩
              intro I89 eI89
              have t90 : (0 : Int32).toInt = 0 := rfl
              have w_I89 : WD Z I89 := by rw [eI89]; exact WD_putA w_I 3 2 kv0 eb82 kb82 rfl rfl (by decide) trivial
              have f_I89 : FR [(3, 2)] Z I Z I89 := by rw [eI89]; exact FR_upA w_I.2.1 kv0 eb82 kb82 rfl rfl List.mem_cons_self
              have q_I89 : FR Ws_X3_priceFor Z I0 Z I89 := q_I.trans w0.1 w0.2.1 (f_I89.mono (by decide))
              have u91 : (I89 v0 3).toInt = (I v0 3).toInt := by rw [f_I89.2.2.1 v0 3 3 kv0 (by decide) (by decide)]
              intro x92 ex92
              have rx92 := i_rng x92
              first | (have tx92 : x92.toInt = v2.toInt + (1) := by (rw [ex92]; exact (i_add rfl (show (1 : Int32).toInt = 1 from rfl) (by omega) (by omega)))) | skip
              unfold f_X3_priceFor_b150
              intro x93 ex93
              have rx93 := i_rng x93
              first | (have tx93 : x93.toInt = v3.toInt + (1) := by (rw [ex93]; exact (i_add rfl (show (1 : Int32).toInt = 1 from rfl) (by omega) (by omega)))) | skip
              exact ih x92 x93 I89 L w_I89 q_I89   (by omega)  (by omega)
            · skip
              first | (have t94 : ¬ (((jlen Z v1 : Nat) : Int) ≤ x81.toInt) := (not_congr (i_le (i_nI (by omega)) rfl)).mp c86) | (have t94 : ¬ ((nI (jlen Z v1)).toInt ≤ x81.toInt) := (not_congr (i_le rfl rfl)).mp c86) | skip
              have o95 : vp_in x81 (jlen Z v1) := vi_of rfl (by omega) (by omega)
              refine ⟨o95, ?_⟩
              unfold f_X3_priceFor_b72
              have o96 : vp_in v2 (jlen Z b82) := vi_of rfl (by omega) (by omega)
              refine ⟨o96, ?_⟩
              intro I97 eI97
              have w_I97 : WD Z I97 := by rw [eI97]; exact WD_putA w_I 3 2 kv0 eb82 kb82 rfl rfl (by decide) trivial
              have f_I97 : FR [(3, 2)] Z I Z I97 := by rw [eI97]; exact FR_upA w_I.2.1 kv0 eb82 kb82 rfl rfl List.mem_cons_self
              have q_I97 : FR Ws_X3_priceFor Z I0 Z I97 := q_I.trans w0.1 w0.2.1 (f_I97.mono (by decide))
              have u98 : (I97 v0 3).toInt = (I v0 3).toInt := by rw [f_I97.2.2.1 v0 3 3 kv0 (by decide) (by decide)]
              intro x99 ex99
              have rx99 := i_rng x99
              first | (have tx99 : x99.toInt = v2.toInt + (1) := by (rw [ex99]; exact (i_add rfl (show (1 : Int32).toInt = 1 from rfl) (by omega) (by omega)))) | skip
              unfold f_X3_priceFor_b150
              intro x100 ex100
              have rx100 := i_rng x100
              first | (have tx100 : x100.toInt = v3.toInt + (1) := by (rw [ex100]; exact (i_add rfl (show (1 : Int32).toInt = 1 from rfl) (by omega) (by omega)))) | skip
              exact ih x99 x100 I97 L w_I97 q_I97   (by omega)  (by omega)
          · skip
            first | (have t101 : ¬ ((0) ≤ x81.toInt) := (not_congr (i_le (show (0 : Int32).toInt = 0 from rfl) rfl)).mp c84) | (have t101 : ¬ ((0 : Int32).toInt ≤ x81.toInt) := (not_congr (i_le rfl rfl)).mp c84) | skip
            unfold f_X3_priceFor_b72
            have o102 : vp_in v2 (jlen Z b82) := vi_of rfl (by omega) (by omega)
            refine ⟨o102, ?_⟩
            intro I103 eI103
            have w_I103 : WD Z I103 := by rw [eI103]; exact WD_putA w_I 3 2 kv0 eb82 kb82 rfl rfl (by decide) trivial
            have f_I103 : FR [(3, 2)] Z I Z I103 := by rw [eI103]; exact FR_upA w_I.2.1 kv0 eb82 kb82 rfl rfl List.mem_cons_self
            have q_I103 : FR Ws_X3_priceFor Z I0 Z I103 := q_I.trans w0.1 w0.2.1 (f_I103.mono (by decide))
            have u104 : (I103 v0 3).toInt = (I v0 3).toInt := by rw [f_I103.2.2.1 v0 3 3 kv0 (by decide) (by decide)]
            intro x105 ex105
            have rx105 := i_rng x105
            first | (have tx105 : x105.toInt = v2.toInt + (1) := by (rw [ex105]; exact (i_add rfl (show (1 : Int32).toInt = 1 from rfl) (by omega) (by omega)))) | skip
            unfold f_X3_priceFor_b150
            intro x106 ex106
            have rx106 := i_rng x106
            first | (have tx106 : x106.toInt = v3.toInt + (1) := by (rw [ex106]; exact (i_add rfl (show (1 : Int32).toInt = 1 from rfl) (by omega) (by omega)))) | skip
            exact ih x105 x106 I103 L w_I103 q_I103   (by omega)  (by omega)
set_option maxHeartbeats 4000000 in
set_option maxRecDepth 100000 in
theorem s_X3_priceFor {Z : jZ} {I : jI} {L : jL} (w_I : WD Z I) (v0 : Nat) (v1 : Nat) (kv0 : jk Z v0 3) (kv1 : jk Z v1 14) (o1_ c1_ j1_ : Nat) (ho1 : jk Z o1_ c1_) (hr1 : jr Z o1_ j1_ = some v1) (p0 : jlen Z v1 ≤ 1000) {Q : Int32 → jI → jL → Prop} (hQ : ∀ (r : Int32) (I' : jI) (L' : jL), WD Z I' → FR Ws_X3_priceFor Z I Z I' → (0 ≤ r.toInt ∧ r.toInt ≤ 99) → Q r I' L') : f_X3_priceFor v0 v1 Z I L Q := by
  unfold f_X3_priceFor
  have q_I : FR Ws_X3_priceFor Z I Z I := FR.rf
  have t107 : (0 : Int32).toInt = 0 := rfl
  have t108 : (0 : Int32).toInt = 0 := rfl
  exact ⟨(40 - (0 : Int32).toInt).toNat + 1, l_X3_priceFor_L4 w_I v0 v1 kv0 kv1 o1_ c1_ j1_ ho1 hr1 p0   hQ   _ (0 : Int32) (0 : Int32) I L w_I q_I   (by omega)  (by omega)⟩
set_option maxHeartbeats 4000000 in
set_option maxRecDepth 100000 in
theorem s_X11_isFamily {Z : jZ} {I : jI} {L : jL} (w_I : WD Z I) (v0 : Int32) {Q : Int32 → jI → jL → Prop} (hQ : ∀ (r : Int32), ((r.toInt = 1 ∧ 0 ≤ v0.toInt ∧ v0.toInt ≤ 7) ∨ (r.toInt = 0 ∧ ¬ (0 ≤ v0.toInt ∧ v0.toInt ≤ 7))) → Q r I L) : f_X11_isFamily v0 Z I L Q := by
  unfold f_X11_isFamily
  have rv0 := i_rng v0
  refine ⟨fun c1 => ?_, fun c1 => ?_⟩
  · skip
    first | (have t2 : v0.toInt < (0) := (i_lt rfl (show (0 : Int32).toInt = 0 from rfl)).mp c1) | (have t2 : v0.toInt < (0 : Int32).toInt := (i_lt rfl rfl).mp c1) | skip
    have t3 : (0 : Int32).toInt = 0 := rfl
    exact hQ (0 : Int32) (by omega)
  · skip
    first | (have t4 : ¬ (v0.toInt < (0)) := (not_congr (i_lt rfl (show (0 : Int32).toInt = 0 from rfl))).mp c1) | (have t4 : ¬ (v0.toInt < (0 : Int32).toInt) := (not_congr (i_lt rfl rfl)).mp c1) | skip
    refine ⟨fun c5 => ?_, fun c5 => ?_⟩
    · skip
      first | (have t6 : (8) ≤ v0.toInt := (i_le (show (8 : Int32).toInt = 8 from rfl) rfl).mp c5) | (have t6 : (8 : Int32).toInt ≤ v0.toInt := (i_le rfl rfl).mp c5) | skip
      have t7 : (0 : Int32).toInt = 0 := rfl
      exact hQ (0 : Int32) (by omega)
    · skip
      first | (have t8 : ¬ ((8) ≤ v0.toInt) := (not_congr (i_le (show (8 : Int32).toInt = 8 from rfl) rfl)).mp c5) | (have t8 : ¬ ((8 : Int32).toInt ≤ v0.toInt) := (not_congr (i_le rfl rfl)).mp c5) | skip
      have t9 : (1 : Int32).toInt = 1 := rfl
      exact hQ (1 : Int32) (by omega)
def Ws_X4_deal : List (Nat × Nat) := [(4, 0), (4, 1), (4, 4)]
set_option maxHeartbeats 4000000 in
set_option maxRecDepth 100000 in
theorem l_X4_deal_L10 {Z : jZ} {I0 : jI} {Q : jI → jL → Prop} (w0 : WD Z I0) (v0 : Nat) (v1 : Nat) (v2 : Int32) (kv0 : jk Z v0 4) (kv1 : jk Z v1 14) (o1_ c1_ j1_ : Nat) (ho1 : jk Z o1_ c1_) (hr1 : jr Z o1_ j1_ = some v1) (p0 : jlen Z v1 = 24) (hQ : ∀  (I' : jI) (L' : jL), WD Z I' → FR Ws_X4_deal Z I0 Z I' → Q I' L') : ∀ (n : Nat) (v3 : Int32) (I : jI) (L : jL), WD Z I → FR Ws_X4_deal Z I0 Z I →   (0 ≤ v3.toInt ∧ v3.toInt ≤ 24) → 24 - v3.toInt < (n : Int) → f_X4_deal_L10  Z Q n v0 v1 v2 v3 I L := by
  intro n
  induction n with
  | zero =>
    intro v3 I L w_I q_I   li  me
    exfalso
    omega
  | succ n ih =>
    intro v3 I L w_I q_I   li  me
    unfold f_X4_deal_L10
    have rv3 := i_rng v3
    have rv2 := i_rng v2
    refine ⟨fun c1 => ?_, fun c1 => ?_⟩
    · skip
      first | (have t2 : v2.toInt ≤ v3.toInt := (i_le rfl rfl).mp c1) | (have t2 : v2.toInt ≤ v3.toInt := (i_le rfl rfl).mp c1) | skip
      unfold f_X4_deal_b58
      intro I3 eI3
      have t4 : (0 : Int32).toInt = 0 := rfl
      have w_I3 : WD Z I3 := by rw [eI3]; exact WD_putF w_I 4 4 kv0 (by decide) (by decide) (by constructor <;> omega)
      have f_I3 : FR [(4, 4)] Z I Z I3 := by rw [eI3]; exact FR_putF kv0 (by decide) List.mem_cons_self
      have q_I3 : FR Ws_X4_deal Z I0 Z I3 := q_I.trans w0.1 w0.2.1 (f_I3.mono (by decide))
      first | (have u5 : (I3 v0 4).toInt = (0) := by (rw [eI3, show jpI I v0 4 (0 : Int32) v0 4 = (0 : Int32) from jpI_at] <;> exact (show (0 : Int32).toInt = 0 from rfl))) | skip
      refine s_X4_findMains w_I3 v0 kv0   (fun  I6 L7 w_I6 f_I6  => ?_)
      have q_I6 : FR Ws_X4_deal Z I0 Z I6 := q_I3.trans w0.1 w0.2.1 (f_I6.mono (by decide))
      have u8 : (I6 v0 4).toInt = (I3 v0 4).toInt := by rw [f_I6.2.2.1 v0 4 4 kv0 (by decide) (by decide)]
      exact hQ  I6 L7 w_I6 q_I6 
    · skip
      first | (have t9 : ¬ (v2.toInt ≤ v3.toInt) := (not_congr (i_le rfl rfl)).mp c1) | (have t9 : ¬ (v2.toInt ≤ v3.toInt) := (not_congr (i_le rfl rfl)).mp c1) | skip
      refine ⟨fun c10 => ?_, fun c10 => ?_⟩
      · skip
        first | (have t11 : ((jlen Z v1 : Nat) : Int) ≤ v3.toInt := (i_le (i_nI (by omega)) rfl).mp c10) | (have t11 : (nI (jlen Z v1)).toInt ≤ v3.toInt := (i_le rfl rfl).mp c10) | skip
        unfold f_X4_deal_b58
        intro I12 eI12
        have t13 : (0 : Int32).toInt = 0 := rfl
        have w_I12 : WD Z I12 := by rw [eI12]; exact WD_putF w_I 4 4 kv0 (by decide) (by decide) (by constructor <;> omega)
        have f_I12 : FR [(4, 4)] Z I Z I12 := by rw [eI12]; exact FR_putF kv0 (by decide) List.mem_cons_self
        have q_I12 : FR Ws_X4_deal Z I0 Z I12 := q_I.trans w0.1 w0.2.1 (f_I12.mono (by decide))
        first | (have u14 : (I12 v0 4).toInt = (0) := by (rw [eI12, show jpI I v0 4 (0 : Int32) v0 4 = (0 : Int32) from jpI_at] <;> exact (show (0 : Int32).toInt = 0 from rfl))) | skip
        refine s_X4_findMains w_I12 v0 kv0   (fun  I15 L16 w_I15 f_I15  => ?_)
        have q_I15 : FR Ws_X4_deal Z I0 Z I15 := q_I12.trans w0.1 w0.2.1 (f_I15.mono (by decide))
        have u17 : (I15 v0 4).toInt = (I12 v0 4).toInt := by rw [f_I15.2.2.1 v0 4 4 kv0 (by decide) (by decide)]
        exact hQ  I15 L16 w_I15 q_I15 
      · skip
        first | (have t18 : ¬ (((jlen Z v1 : Nat) : Int) ≤ v3.toInt) := (not_congr (i_le (i_nI (by omega)) rfl)).mp c10) | (have t18 : ¬ ((nI (jlen Z v1)).toInt ≤ v3.toInt) := (not_congr (i_le rfl rfl)).mp c10) | skip
        refine ⟨fun c19 => ?_, fun c19 => ?_⟩
        · skip
          first | (have t20 : (24) ≤ v3.toInt := (i_le (show (24 : Int32).toInt = 24 from rfl) rfl).mp c19) | (have t20 : (24 : Int32).toInt ≤ v3.toInt := (i_le rfl rfl).mp c19) | skip
          unfold f_X4_deal_b58
          intro I21 eI21
          have t22 : (0 : Int32).toInt = 0 := rfl
          have w_I21 : WD Z I21 := by rw [eI21]; exact WD_putF w_I 4 4 kv0 (by decide) (by decide) (by constructor <;> omega)
          have f_I21 : FR [(4, 4)] Z I Z I21 := by rw [eI21]; exact FR_putF kv0 (by decide) List.mem_cons_self
          have q_I21 : FR Ws_X4_deal Z I0 Z I21 := q_I.trans w0.1 w0.2.1 (f_I21.mono (by decide))
          first | (have u23 : (I21 v0 4).toInt = (0) := by (rw [eI21, show jpI I v0 4 (0 : Int32) v0 4 = (0 : Int32) from jpI_at] <;> exact (show (0 : Int32).toInt = 0 from rfl))) | skip
          refine s_X4_findMains w_I21 v0 kv0   (fun  I24 L25 w_I24 f_I24  => ?_)
          have q_I24 : FR Ws_X4_deal Z I0 Z I24 := q_I21.trans w0.1 w0.2.1 (f_I24.mono (by decide))
          have u26 : (I24 v0 4).toInt = (I21 v0 4).toInt := by rw [f_I24.2.2.1 v0 4 4 kv0 (by decide) (by decide)]
          exact hQ  I24 L25 w_I24 q_I24 
        · skip
          first | (have t27 : ¬ ((24) ≤ v3.toInt) := (not_congr (i_le (show (24 : Int32).toInt = 24 from rfl) rfl)).mp c19) | (have t27 : ¬ ((24 : Int32).toInt ≤ v3.toInt) := (not_congr (i_le rfl rfl)).mp c19) | skip
          have o28 : vp_in v3 (jlen Z v1) := vi_of rfl (by omega) (by omega)
          refine ⟨o28, ?_⟩
          refine s_X11_isFamily w_I (I v1 v3.toNatClampNeg)    (fun r29 p30 => ?_)
          have rr29 := i_rng r29
          refine ⟨fun c31 => ?_, fun c31 => ?_⟩
          · skip
            first | (have t32 : r29.toInt = (0) := (i_eq rfl (show (0 : Int32).toInt = 0 from rfl)).mp c31) | (have t32 : r29.toInt = (0 : Int32).toInt := (i_eq rfl rfl).mp c31) | skip
            unfold f_X4_deal_b52
            intro x33 ex33
            have rx33 := i_rng x33
            first | (have tx33 : x33.toInt = v3.toInt + (1) := by (rw [ex33]; exact (i_add rfl (show (1 : Int32).toInt = 1 from rfl) (by omega) (by omega)))) | skip
            exact ih x33 I L w_I q_I   (by omega)  (by omega)
          · skip
            first | (have t34 : ¬ (r29.toInt = (0)) := (not_congr (i_eq rfl (show (0 : Int32).toInt = 0 from rfl))).mp c31) | (have t34 : ¬ (r29.toInt = (0 : Int32).toInt) := (not_congr (i_eq rfl rfl)).mp c31) | skip
            intro b35 eb35
            obtain ⟨x36, ex36, kb35, lb35⟩ := sh_f w_I.1 kv0 (j := 0) (k := 14) (m := 192) rfl
            cases eb35.symm.trans ex36
            have o37 : vp_in v3 (jlen Z v1) := vi_of rfl (by omega) (by omega)
            refine ⟨o37, ?_⟩
            have o38 : vp_in ((v3 * (8 : Int32)) + (I v1 v3.toNatClampNeg)) 192 := vi_of (i_add (i_mul rfl (show (8 : Int32).toInt = 8 from rfl) (by omega) (by omega)) rfl (by omega) (by omega)) (by omega) (by omega)
            refine ⟨o38, ?_⟩
            intro I39 eI39
            have t40 : (720 : Int32).toInt = 720 := rfl
            have w_I39 : WD Z I39 := by rw [eI39]; exact WD_putA w_I 4 0 kv0 eb35 kb35 rfl rfl (by decide) trivial
            have f_I39 : FR [(4, 0)] Z I Z I39 := by rw [eI39]; exact FR_upA w_I.2.1 kv0 eb35 kb35 rfl rfl List.mem_cons_self
            have q_I39 : FR Ws_X4_deal Z I0 Z I39 := q_I.trans w0.1 w0.2.1 (f_I39.mono (by decide))
            unfold f_X4_deal_b52
            intro x41 ex41
            have rx41 := i_rng x41
            first | (have tx41 : x41.toInt = v3.toInt + (1) := by (rw [ex41]; exact (i_add rfl (show (1 : Int32).toInt = 1 from rfl) (by omega) (by omega)))) | skip
            exact ih x41 I39 L w_I39 q_I39   (by omega)  (by omega)
set_option maxHeartbeats 4000000 in
set_option maxRecDepth 100000 in
theorem s_X4_deal {Z : jZ} {I : jI} {L : jL} (w_I : WD Z I) (v0 : Nat) (v1 : Nat) (v2 : Int32) (kv0 : jk Z v0 4) (kv1 : jk Z v1 14) (o1_ c1_ j1_ : Nat) (ho1 : jk Z o1_ c1_) (hr1 : jr Z o1_ j1_ = some v1) (p0 : jlen Z v1 = 24) {Q : jI → jL → Prop} (hQ : ∀  (I' : jI) (L' : jL), WD Z I' → FR Ws_X4_deal Z I Z I' → Q I' L') : f_X4_deal v0 v1 v2 Z I L Q := by
  unfold f_X4_deal
  have q_I : FR Ws_X4_deal Z I Z I := FR.rf
  have rv2 := i_rng v2
  intro b42 eb42
  obtain ⟨x43, ex43, kb42, lb42⟩ := sh_f w_I.1 kv0 (j := 0) (k := 14) (m := 192) rfl
  cases eb42.symm.trans ex43
  have t44 : (0 : Int32).toInt = 0 := rfl
  refine s_J7_fill_53178 w_I b42 (0 : Int32) kb42 v0 4 0 kv0 eb42 (by decide) rfl (by omega) (by intro i; first | trivial | exact p1 i _ | exact p2 i _ | (constructor <;> decide)) (fun  I45 L46 w_I45 f_I45  => ?_)
  have q_I45 : FR Ws_X4_deal Z I Z I45 := q_I.trans w_I.1 w_I.2.1 (f_I45.mono (by first | decide | (intro p hp; simp at hp ⊢; omega) | simp))
  have t47 : (0 : Int32).toInt = 0 := rfl
  exact ⟨(24 - (0 : Int32).toInt).toNat + 1, l_X4_deal_L10 w_I v0 v1 v2 kv0 kv1 o1_ c1_ j1_ ho1 hr1 p0   hQ   _ (0 : Int32) I45 L46 w_I45 q_I45   (by omega)  (by omega)⟩
set_option maxHeartbeats 4000000 in
set_option maxRecDepth 100000 in
theorem s_X4_mainOf {Z : jZ} {I : jI} {L : jL} (w_I : WD Z I) (v0 : Nat) (v1 : Int32) (kv0 : jk Z v0 4) {Q : Int32 → jI → jL → Prop} (hQ : ∀ (r : Int32), (0 ≤ r.toInt ∧ r.toInt ≤ 7) → Q r I L) : f_X4_mainOf v0 v1 Z I L Q := by
  unfold f_X4_mainOf
  have rv1 := i_rng v1
  refine ⟨fun c1 => ?_, fun c1 => ?_⟩
  · skip
    first | (have t2 : v1.toInt < (0) := (i_lt rfl (show (0 : Int32).toInt = 0 from rfl)).mp c1) | (have t2 : v1.toInt < (0 : Int32).toInt := (i_lt rfl rfl).mp c1) | skip
    have t3 : (0 : Int32).toInt = 0 := rfl
    exact hQ (0 : Int32) (by omega)
  · skip
    first | (have t4 : ¬ (v1.toInt < (0)) := (not_congr (i_lt rfl (show (0 : Int32).toInt = 0 from rfl))).mp c1) | (have t4 : ¬ (v1.toInt < (0 : Int32).toInt) := (not_congr (i_lt rfl rfl)).mp c1) | skip
    refine ⟨fun c5 => ?_, fun c5 => ?_⟩
    · skip
      first | (have t6 : (24) ≤ v1.toInt := (i_le (show (24 : Int32).toInt = 24 from rfl) rfl).mp c5) | (have t6 : (24 : Int32).toInt ≤ v1.toInt := (i_le rfl rfl).mp c5) | skip
      have t7 : (0 : Int32).toInt = 0 := rfl
      exact hQ (0 : Int32) (by omega)
    · skip
      first | (have t8 : ¬ ((24) ≤ v1.toInt) := (not_congr (i_le (show (24 : Int32).toInt = 24 from rfl) rfl)).mp c5) | (have t8 : ¬ ((24 : Int32).toInt ≤ v1.toInt) := (not_congr (i_le rfl rfl)).mp c5) | skip
      intro b9 eb9
      obtain ⟨x10, ex10, kb9, lb9⟩ := sh_f w_I.1 kv0 (j := 1) (k := 14) (m := 24) rfl
      cases eb9.symm.trans ex10
      have o11 : vp_in v1 24 := vi_of rfl (by omega) (by omega)
      refine ⟨o11, ?_⟩
      have t12 : 0 ≤ (I b9 v1.toNatClampNeg).toInt ∧ (I b9 v1.toNatClampNeg).toInt ≤ 7 := w_I.arr 4 1 kv0 eb9 kb9 rfl rfl _
      exact hQ (I b9 v1.toNatClampNeg) (by omega)
set_option maxHeartbeats 4000000 in
set_option maxRecDepth 100000 in
theorem s_X4_shareOf {Z : jZ} {I : jI} {L : jL} (w_I : WD Z I) (v0 : Nat) (v1 : Int32) (v2 : Int32) (kv0 : jk Z v0 4) {Q : Int32 → jI → jL → Prop} (hQ : ∀ (r : Int32), Q r I L) : f_X4_shareOf v0 v1 v2 Z I L Q := by
  unfold f_X4_shareOf
  have rv1 := i_rng v1
  have rv2 := i_rng v2
  refine ⟨fun c1 => ?_, fun c1 => ?_⟩
  · skip
    first | (have t2 : v1.toInt < (0) := (i_lt rfl (show (0 : Int32).toInt = 0 from rfl)).mp c1) | (have t2 : v1.toInt < (0 : Int32).toInt := (i_lt rfl rfl).mp c1) | skip
    have t3 : (0 : Int32).toInt = 0 := rfl
    exact hQ (0 : Int32) 
  · skip
    first | (have t4 : ¬ (v1.toInt < (0)) := (not_congr (i_lt rfl (show (0 : Int32).toInt = 0 from rfl))).mp c1) | (have t4 : ¬ (v1.toInt < (0 : Int32).toInt) := (not_congr (i_lt rfl rfl)).mp c1) | skip
    refine ⟨fun c5 => ?_, fun c5 => ?_⟩
    · skip
      first | (have t6 : (24) ≤ v1.toInt := (i_le (show (24 : Int32).toInt = 24 from rfl) rfl).mp c5) | (have t6 : (24 : Int32).toInt ≤ v1.toInt := (i_le rfl rfl).mp c5) | skip
      have t7 : (0 : Int32).toInt = 0 := rfl
      exact hQ (0 : Int32) 
    · skip
      first | (have t8 : ¬ ((24) ≤ v1.toInt) := (not_congr (i_le (show (24 : Int32).toInt = 24 from rfl) rfl)).mp c5) | (have t8 : ¬ ((24 : Int32).toInt ≤ v1.toInt) := (not_congr (i_le rfl rfl)).mp c5) | skip
      refine s_X11_isFamily w_I v2    (fun r9 p10 => ?_)
      have rr9 := i_rng r9
      refine ⟨fun c11 => ?_, fun c11 => ?_⟩
      · skip
        first | (have t12 : r9.toInt = (0) := (i_eq rfl (show (0 : Int32).toInt = 0 from rfl)).mp c11) | (have t12 : r9.toInt = (0 : Int32).toInt := (i_eq rfl rfl).mp c11) | skip
        have t13 : (0 : Int32).toInt = 0 := rfl
        exact hQ (0 : Int32) 
      · skip
        first | (have t14 : ¬ (r9.toInt = (0)) := (not_congr (i_eq rfl (show (0 : Int32).toInt = 0 from rfl))).mp c11) | (have t14 : ¬ (r9.toInt = (0 : Int32).toInt) := (not_congr (i_eq rfl rfl)).mp c11) | skip
        intro b15 eb15
        obtain ⟨x16, ex16, kb15, lb15⟩ := sh_f w_I.1 kv0 (j := 0) (k := 14) (m := 192) rfl
        cases eb15.symm.trans ex16
        have o17 : vp_in ((v1 * (8 : Int32)) + v2) 192 := vi_of (i_add (i_mul rfl (show (8 : Int32).toInt = 8 from rfl) (by omega) (by omega)) rfl (by omega) (by omega)) (by omega) (by omega)
        refine ⟨o17, ?_⟩
        exact hQ (I b15 ((v1 * (8 : Int32)) + v2).toNatClampNeg) 
set_option maxHeartbeats 4000000 in
set_option maxRecDepth 100000 in
theorem l_X4_sumOf_L4 {Z : jZ} {I : jI} {L : jL} {Q : Int32 → jI → jL → Prop} (w_I : WD Z I) (v0 : Nat) (v1 : Int32) (kv0 : jk Z v0 4) (hQ : ∀ (r : Int32), Q r I L) : ∀ (n : Nat) (v2 : Int32) (v3 : Int32) ,   (0 ≤ v3.toInt ∧ v3.toInt ≤ 24) → 24 - v3.toInt < (n : Int) → f_X4_sumOf_L4  Z Q n v0 v1 v2 v3 I L := by
  intro n
  induction n with
  | zero =>
    intro v2 v3   li  me
    exfalso
    omega
  | succ n ih =>
    intro v2 v3   li  me
    unfold f_X4_sumOf_L4
    have rv2 := i_rng v2
    have rv3 := i_rng v3
    have rv1 := i_rng v1
    refine ⟨fun c1 => ?_, fun c1 => ?_⟩
    · skip
      first | (have t2 : (24) ≤ v3.toInt := (i_le (show (24 : Int32).toInt = 24 from rfl) rfl).mp c1) | (have t2 : (24 : Int32).toInt ≤ v3.toInt := (i_le rfl rfl).mp c1) | skip
      exact hQ v2 
    · skip
      first | (have t3 : ¬ ((24) ≤ v3.toInt) := (not_congr (i_le (show (24 : Int32).toInt = 24 from rfl) rfl)).mp c1) | (have t3 : ¬ ((24 : Int32).toInt ≤ v3.toInt) := (not_congr (i_le rfl rfl)).mp c1) | skip
      refine s_X4_shareOf w_I v0 v3 v1 kv0   (fun r4  => ?_)
      have rr4 := i_rng r4
      intro x5 ex5
      have rx5 := i_rng x5
      first | (have tx5 : x5.toInt = (v2.toInt + r4.toInt) := by (rw [ex5]; exact (i_add rfl rfl (by omega) (by omega)))) | (have tx5 : x5.toInt = (v2 + r4).toInt := by rw [ex5])
      intro x6 ex6
      have rx6 := i_rng x6
      first | (have tx6 : x6.toInt = v3.toInt + (1) := by (rw [ex6]; exact (i_add rfl (show (1 : Int32).toInt = 1 from rfl) (by omega) (by omega)))) | skip
      exact ih x5 x6   (by omega)  (by omega)
set_option maxHeartbeats 4000000 in
set_option maxRecDepth 100000 in
theorem s_X4_sumOf {Z : jZ} {I : jI} {L : jL} (w_I : WD Z I) (v0 : Nat) (v1 : Int32) (kv0 : jk Z v0 4) {Q : Int32 → jI → jL → Prop} (hQ : ∀ (r : Int32), Q r I L) : f_X4_sumOf v0 v1 Z I L Q := by
  unfold f_X4_sumOf
  have rv1 := i_rng v1
  have t7 : (0 : Int32).toInt = 0 := rfl
  have t8 : (0 : Int32).toInt = 0 := rfl
  exact ⟨(24 - (0 : Int32).toInt).toNat + 1, l_X4_sumOf_L4 w_I v0 v1 kv0   hQ   _ (0 : Int32) (0 : Int32)   (by omega)  (by omega)⟩
set_option maxHeartbeats 4000000 in
set_option maxRecDepth 100000 in
theorem l_X4_shareInto_L2 {Z : jZ} {I0 : jI} {Q : jI → jL → Prop} (w0 : WD Z I0) (v0 : Nat) (v1 : Int32) (v2 : Nat) (kv0 : jk Z v0 4) (kv2 : jk Z v2 14) (o2_ c2_ j2_ : Nat) (ho2 : jk Z o2_ c2_) (hr2 : jr Z o2_ j2_ = some v2) (h72 : c2_ ≠ 7) (hs2 : jsr c2_ j2_ = false) (p0 : jlen Z v2 ≤ 1000) (p1 : ∀ i v, okA c2_ j2_ i v) (hQ : ∀  (I' : jI) (L' : jL), WD Z I' → FR ((c2_, j2_) :: []) Z I0 Z I' → Q I' L') : ∀ (n : Nat) (v3 : Int32) (I : jI) (L : jL), WD Z I → FR ((c2_, j2_) :: []) Z I0 Z I →   (0 ≤ v3.toInt ∧ v3.toInt ≤ 8) → 8 - v3.toInt < (n : Int) → f_X4_shareInto_L2  Z Q n v0 v1 v2 v3 I L := by
  intro n
  induction n with
  | zero =>
    intro v3 I L w_I q_I   li  me
    exfalso
    omega
  | succ n ih =>
    intro v3 I L w_I q_I   li  me
    unfold f_X4_shareInto_L2
    have rv3 := i_rng v3
    have rv1 := i_rng v1
    refine ⟨fun c1 => ?_, fun c1 => ?_⟩
    · skip
      first | (have t2 : (8) ≤ v3.toInt := (i_le (show (8 : Int32).toInt = 8 from rfl) rfl).mp c1) | (have t2 : (8 : Int32).toInt ≤ v3.toInt := (i_le rfl rfl).mp c1) | skip
      exact hQ  I L w_I q_I 
    · skip
      first | (have t3 : ¬ ((8) ≤ v3.toInt) := (not_congr (i_le (show (8 : Int32).toInt = 8 from rfl) rfl)).mp c1) | (have t3 : ¬ ((8 : Int32).toInt ≤ v3.toInt) := (not_congr (i_le rfl rfl)).mp c1) | skip
      refine ⟨fun c4 => ?_, fun c4 => ?_⟩
      · skip
        first | (have t5 : ((jlen Z v2 : Nat) : Int) ≤ v3.toInt := (i_le (i_nI (by omega)) rfl).mp c4) | (have t5 : (nI (jlen Z v2)).toInt ≤ v3.toInt := (i_le rfl rfl).mp c4) | skip
        exact hQ  I L w_I q_I 
      · skip
        first | (have t6 : ¬ (((jlen Z v2 : Nat) : Int) ≤ v3.toInt) := (not_congr (i_le (i_nI (by omega)) rfl)).mp c4) | (have t6 : ¬ ((nI (jlen Z v2)).toInt ≤ v3.toInt) := (not_congr (i_le rfl rfl)).mp c4) | skip
        refine s_X4_shareOf w_I v0 v1 v3 kv0   (fun r7  => ?_)
        have rr7 := i_rng r7
        have o8 : vp_in v3 (jlen Z v2) := vi_of rfl (by omega) (by omega)
        refine ⟨o8, ?_⟩
        intro I9 eI9
        have w_I9 : WD Z I9 := by rw [eI9]; exact WD_putA w_I c2_ j2_ ho2 hr2 kv2 rfl hs2 h72 (p1 _ _)
        have f_I9 : FR [(c2_, j2_)] Z I Z I9 := by rw [eI9]; exact FR_upA w_I.2.1 ho2 hr2 kv2 rfl hs2 List.mem_cons_self
        have q_I9 : FR ((c2_, j2_) :: []) Z I0 Z I9 := q_I.trans w0.1 w0.2.1 (f_I9.mono (by simp))
        intro x10 ex10
        have rx10 := i_rng x10
        first | (have tx10 : x10.toInt = v3.toInt + (1) := by (rw [ex10]; exact (i_add rfl (show (1 : Int32).toInt = 1 from rfl) (by omega) (by omega)))) | skip
        exact ih x10 I9 L w_I9 q_I9   (by omega)  (by omega)
set_option maxHeartbeats 4000000 in
set_option maxRecDepth 100000 in
theorem s_X4_shareInto {Z : jZ} {I : jI} {L : jL} (w_I : WD Z I) (v0 : Nat) (v1 : Int32) (v2 : Nat) (kv0 : jk Z v0 4) (kv2 : jk Z v2 14) (o2_ c2_ j2_ : Nat) (ho2 : jk Z o2_ c2_) (hr2 : jr Z o2_ j2_ = some v2) (h72 : c2_ ≠ 7) (hs2 : jsr c2_ j2_ = false) (p0 : jlen Z v2 ≤ 1000) (p1 : ∀ i v, okA c2_ j2_ i v) {Q : jI → jL → Prop} (hQ : ∀  (I' : jI) (L' : jL), WD Z I' → FR ((c2_, j2_) :: []) Z I Z I' → Q I' L') : f_X4_shareInto v0 v1 v2 Z I L Q := by
  unfold f_X4_shareInto
  have q_I : FR ((c2_, j2_) :: []) Z I Z I := FR.rf
  have rv1 := i_rng v1
  have t11 : (0 : Int32).toInt = 0 := rfl
  exact ⟨(8 - (0 : Int32).toInt).toNat + 1, l_X4_shareInto_L2 w_I v0 v1 v2 kv0 kv2 o2_ c2_ j2_ ho2 hr2 h72 hs2 p0 p1   hQ   _ (0 : Int32) I L w_I q_I   (by omega)  (by omega)⟩
set_option maxHeartbeats 4000000 in
set_option maxRecDepth 100000 in
theorem l_X4_sumInto_L2 {Z : jZ} {I0 : jI} {Q : jI → jL → Prop} (w0 : WD Z I0) (v0 : Nat) (v1 : Nat) (kv0 : jk Z v0 4) (kv1 : jk Z v1 14) (o1_ c1_ j1_ : Nat) (ho1 : jk Z o1_ c1_) (hr1 : jr Z o1_ j1_ = some v1) (h71 : c1_ ≠ 7) (hs1 : jsr c1_ j1_ = false) (p0 : jlen Z v1 ≤ 1000) (p1 : ∀ i v, okA c1_ j1_ i v) (hQ : ∀  (I' : jI) (L' : jL), WD Z I' → FR ((c1_, j1_) :: []) Z I0 Z I' → Q I' L') : ∀ (n : Nat) (v2 : Int32) (I : jI) (L : jL), WD Z I → FR ((c1_, j1_) :: []) Z I0 Z I →   (0 ≤ v2.toInt ∧ v2.toInt ≤ 8) → 8 - v2.toInt < (n : Int) → f_X4_sumInto_L2  Z Q n v0 v1 v2 I L := by
  intro n
  induction n with
  | zero =>
    intro v2 I L w_I q_I   li  me
    exfalso
    omega
  | succ n ih =>
    intro v2 I L w_I q_I   li  me
    unfold f_X4_sumInto_L2
    have rv2 := i_rng v2
    refine ⟨fun c1 => ?_, fun c1 => ?_⟩
    · skip
      first | (have t2 : (8) ≤ v2.toInt := (i_le (show (8 : Int32).toInt = 8 from rfl) rfl).mp c1) | (have t2 : (8 : Int32).toInt ≤ v2.toInt := (i_le rfl rfl).mp c1) | skip
      exact hQ  I L w_I q_I 
    · skip
      first | (have t3 : ¬ ((8) ≤ v2.toInt) := (not_congr (i_le (show (8 : Int32).toInt = 8 from rfl) rfl)).mp c1) | (have t3 : ¬ ((8 : Int32).toInt ≤ v2.toInt) := (not_congr (i_le rfl rfl)).mp c1) | skip
      refine ⟨fun c4 => ?_, fun c4 => ?_⟩
      · skip
        first | (have t5 : ((jlen Z v1 : Nat) : Int) ≤ v2.toInt := (i_le (i_nI (by omega)) rfl).mp c4) | (have t5 : (nI (jlen Z v1)).toInt ≤ v2.toInt := (i_le rfl rfl).mp c4) | skip
        exact hQ  I L w_I q_I 
      · skip
        first | (have t6 : ¬ (((jlen Z v1 : Nat) : Int) ≤ v2.toInt) := (not_congr (i_le (i_nI (by omega)) rfl)).mp c4) | (have t6 : ¬ ((nI (jlen Z v1)).toInt ≤ v2.toInt) := (not_congr (i_le rfl rfl)).mp c4) | skip
        refine s_X4_sumOf w_I v0 v2 kv0   (fun r7  => ?_)
        have rr7 := i_rng r7
        have o8 : vp_in v2 (jlen Z v1) := vi_of rfl (by omega) (by omega)
        refine ⟨o8, ?_⟩
        intro I9 eI9
        have w_I9 : WD Z I9 := by rw [eI9]; exact WD_putA w_I c1_ j1_ ho1 hr1 kv1 rfl hs1 h71 (p1 _ _)
        have f_I9 : FR [(c1_, j1_)] Z I Z I9 := by rw [eI9]; exact FR_upA w_I.2.1 ho1 hr1 kv1 rfl hs1 List.mem_cons_self
        have q_I9 : FR ((c1_, j1_) :: []) Z I0 Z I9 := q_I.trans w0.1 w0.2.1 (f_I9.mono (by simp))
        intro x10 ex10
        have rx10 := i_rng x10
        first | (have tx10 : x10.toInt = v2.toInt + (1) := by (rw [ex10]; exact (i_add rfl (show (1 : Int32).toInt = 1 from rfl) (by omega) (by omega)))) | skip
        exact ih x10 I9 L w_I9 q_I9   (by omega)  (by omega)
set_option maxHeartbeats 4000000 in
set_option maxRecDepth 100000 in
theorem s_X4_sumInto {Z : jZ} {I : jI} {L : jL} (w_I : WD Z I) (v0 : Nat) (v1 : Nat) (kv0 : jk Z v0 4) (kv1 : jk Z v1 14) (o1_ c1_ j1_ : Nat) (ho1 : jk Z o1_ c1_) (hr1 : jr Z o1_ j1_ = some v1) (h71 : c1_ ≠ 7) (hs1 : jsr c1_ j1_ = false) (p0 : jlen Z v1 ≤ 1000) (p1 : ∀ i v, okA c1_ j1_ i v) {Q : jI → jL → Prop} (hQ : ∀  (I' : jI) (L' : jL), WD Z I' → FR ((c1_, j1_) :: []) Z I Z I' → Q I' L') : f_X4_sumInto v0 v1 Z I L Q := by
  unfold f_X4_sumInto
  have q_I : FR ((c1_, j1_) :: []) Z I Z I := FR.rf
  have t11 : (0 : Int32).toInt = 0 := rfl
  exact ⟨(8 - (0 : Int32).toInt).toNat + 1, l_X4_sumInto_L2 w_I v0 v1 kv0 kv1 o1_ c1_ j1_ ho1 hr1 h71 hs1 p0 p1   hQ   _ (0 : Int32) I L w_I q_I   (by omega)  (by omega)⟩
set_option maxHeartbeats 4000000 in
set_option maxRecDepth 100000 in
theorem l_X4_mainsInto_L7 {Z : jZ} {I0 : jI} {Q : jI → jL → Prop} (w0 : WD Z I0) (v0 : Nat) (v1 : Nat) (kv0 : jk Z v0 4) (kv1 : jk Z v1 14) (o1_ c1_ j1_ : Nat) (ho1 : jk Z o1_ c1_) (hr1 : jr Z o1_ j1_ = some v1) (h71 : c1_ ≠ 7) (hs1 : jsr c1_ j1_ = false) (p0 : jlen Z v1 ≤ 1000) (p1 : ∀ i v, okA c1_ j1_ i v) (hQ : ∀  (I' : jI) (L' : jL), WD Z I' → FR ((c1_, j1_) :: []) Z I0 Z I' → Q I' L') : ∀ (n : Nat) (v2 : Int32) (I : jI) (L : jL), WD Z I → FR ((c1_, j1_) :: []) Z I0 Z I →   (0 ≤ v2.toInt ∧ v2.toInt ≤ 24) → 24 - v2.toInt < (n : Int) → f_X4_mainsInto_L7  Z Q n v0 v1 v2 I L := by
  intro n
  induction n with
  | zero =>
    intro v2 I L w_I q_I   li  me
    exfalso
    omega
  | succ n ih =>
    intro v2 I L w_I q_I   li  me
    unfold f_X4_mainsInto_L7
    have rv2 := i_rng v2
    refine ⟨fun c1 => ?_, fun c1 => ?_⟩
    · skip
      first | (have t2 : (24) ≤ v2.toInt := (i_le (show (24 : Int32).toInt = 24 from rfl) rfl).mp c1) | (have t2 : (24 : Int32).toInt ≤ v2.toInt := (i_le rfl rfl).mp c1) | skip
      exact hQ  I L w_I q_I 
    · skip
      first | (have t3 : ¬ ((24) ≤ v2.toInt) := (not_congr (i_le (show (24 : Int32).toInt = 24 from rfl) rfl)).mp c1) | (have t3 : ¬ ((24 : Int32).toInt ≤ v2.toInt) := (not_congr (i_le rfl rfl)).mp c1) | skip
      intro b4 eb4
      obtain ⟨x5, ex5, kb4, lb4⟩ := sh_f w_I.1 kv0 (j := 1) (k := 14) (m := 24) rfl
      cases eb4.symm.trans ex5
      have o6 : vp_in v2 24 := vi_of rfl (by omega) (by omega)
      refine ⟨o6, ?_⟩
      have t7 : 0 ≤ (I b4 v2.toNatClampNeg).toInt ∧ (I b4 v2.toNatClampNeg).toInt ≤ 7 := w_I.arr 4 1 kv0 eb4 kb4 rfl rfl _
      intro x8 ex8
      have rx8 := i_rng x8
      first | (have tx8 : x8.toInt = (I b4 v2.toNatClampNeg).toInt := by (rw [ex8]; exact rfl)) | (have tx8 : x8.toInt = (I b4 v2.toNatClampNeg).toInt := by rw [ex8])
      refine ⟨fun c9 => ?_, fun c9 => ?_⟩
      · skip
        first | (have t10 : ((jlen Z v1 : Nat) : Int) ≤ x8.toInt := (i_le (i_nI (by omega)) rfl).mp c9) | (have t10 : (nI (jlen Z v1)).toInt ≤ x8.toInt := (i_le rfl rfl).mp c9) | skip
        unfold f_X4_mainsInto_b42
        intro x11 ex11
        have rx11 := i_rng x11
        first | (have tx11 : x11.toInt = v2.toInt + (1) := by (rw [ex11]; exact (i_add rfl (show (1 : Int32).toInt = 1 from rfl) (by omega) (by omega)))) | skip
        exact ih x11 I L w_I q_I   (by omega)  (by omega)
      · skip
        first | (have t12 : ¬ (((jlen Z v1 : Nat) : Int) ≤ x8.toInt) := (not_congr (i_le (i_nI (by omega)) rfl)).mp c9) | (have t12 : ¬ ((nI (jlen Z v1)).toInt ≤ x8.toInt) := (not_congr (i_le rfl rfl)).mp c9) | skip
        refine s_X4_shareOf w_I v0 v2 x8 kv0   (fun r13  => ?_)
        have rr13 := i_rng r13
        refine ⟨fun c14 => ?_, fun c14 => ?_⟩
        · skip
          first | (have t15 : r13.toInt ≤ (0) := (i_le rfl (show (0 : Int32).toInt = 0 from rfl)).mp c14) | (have t15 : r13.toInt ≤ (0 : Int32).toInt := (i_le rfl rfl).mp c14) | skip
          unfold f_X4_mainsInto_b42
          intro x16 ex16
          have rx16 := i_rng x16
          first | (have tx16 : x16.toInt = v2.toInt + (1) := by (rw [ex16]; exact (i_add rfl (show (1 : Int32).toInt = 1 from rfl) (by omega) (by omega)))) | skip
          exact ih x16 I L w_I q_I   (by omega)  (by omega)
        · skip
          first | (have t17 : ¬ (r13.toInt ≤ (0)) := (not_congr (i_le rfl (show (0 : Int32).toInt = 0 from rfl))).mp c14) | (have t17 : ¬ (r13.toInt ≤ (0 : Int32).toInt) := (not_congr (i_le rfl rfl)).mp c14) | skip
          have o18 : vp_in x8 (jlen Z v1) := vi_of rfl (by omega) (by omega)
          refine ⟨o18, ?_⟩
          have o19 : vp_in x8 (jlen Z v1) := vi_of rfl (by omega) (by omega)
          refine ⟨o19, ?_⟩
          intro I20 eI20
          try (have t21 : ((I v1 x8.toNatClampNeg) + (1 : Int32)).toInt = ((I v1 x8.toNatClampNeg).toInt + (1)) := (i_add rfl (show (1 : Int32).toInt = 1 from rfl) (by omega) (by omega)))
          have w_I20 : WD Z I20 := by rw [eI20]; exact WD_putA w_I c1_ j1_ ho1 hr1 kv1 rfl hs1 h71 (p1 _ _)
          have f_I20 : FR [(c1_, j1_)] Z I Z I20 := by rw [eI20]; exact FR_upA w_I.2.1 ho1 hr1 kv1 rfl hs1 List.mem_cons_self
          have q_I20 : FR ((c1_, j1_) :: []) Z I0 Z I20 := q_I.trans w0.1 w0.2.1 (f_I20.mono (by simp))
          unfold f_X4_mainsInto_b42
          intro x22 ex22
          have rx22 := i_rng x22
          first | (have tx22 : x22.toInt = v2.toInt + (1) := by (rw [ex22]; exact (i_add rfl (show (1 : Int32).toInt = 1 from rfl) (by omega) (by omega)))) | skip
          exact ih x22 I20 L w_I20 q_I20   (by omega)  (by omega)
set_option maxHeartbeats 4000000 in
set_option maxRecDepth 100000 in
theorem s_X4_mainsInto {Z : jZ} {I : jI} {L : jL} (w_I : WD Z I) (v0 : Nat) (v1 : Nat) (kv0 : jk Z v0 4) (kv1 : jk Z v1 14) (o1_ c1_ j1_ : Nat) (ho1 : jk Z o1_ c1_) (hr1 : jr Z o1_ j1_ = some v1) (h71 : c1_ ≠ 7) (hs1 : jsr c1_ j1_ = false) (p0 : jlen Z v1 ≤ 1000) (p1 : ∀ i v, okA c1_ j1_ i v) {Q : jI → jL → Prop} (hQ : ∀  (I' : jI) (L' : jL), WD Z I' → FR ((c1_, j1_) :: []) Z I Z I' → Q I' L') : f_X4_mainsInto v0 v1 Z I L Q := by
  unfold f_X4_mainsInto
  have q_I : FR ((c1_, j1_) :: []) Z I Z I := FR.rf
  have t23 : (0 : Int32).toInt = 0 := rfl
  refine s_J7_fill_53178 w_I v1 (0 : Int32) kv1 o1_ c1_ j1_ ho1 hr1 h71 hs1 (by omega) (by intro i; first | trivial | exact p1 i _ | exact p2 i _ | (constructor <;> decide)) (fun  I24 L25 w_I24 f_I24  => ?_)
  have q_I24 : FR ((c1_, j1_) :: []) Z I Z I24 := q_I.trans w_I.1 w_I.2.1 (f_I24.mono (by first | decide | (intro p hp; simp at hp ⊢; omega) | simp))
  have t26 : (0 : Int32).toInt = 0 := rfl
  exact ⟨(24 - (0 : Int32).toInt).toNat + 1, l_X4_mainsInto_L7 w_I v0 v1 kv0 kv1 o1_ c1_ j1_ ho1 hr1 h71 hs1 p0 p1   hQ   _ (0 : Int32) I24 L25 w_I24 q_I24   (by omega)  (by omega)⟩
def Ws_X4_remember : List (Nat × Nat) := [(4, 2), (4, 3), (4, 4)]
set_option maxHeartbeats 4000000 in
set_option maxRecDepth 100000 in
theorem s_X4_remember {Z : jZ} {I : jI} {L : jL} (w_I : WD Z I) (v0 : Nat) (kv0 : jk Z v0 4) {Q : jI → jL → Prop} (hQ : ∀  (I' : jI) (L' : jL), WD Z I' → FR Ws_X4_remember Z I Z I' → Q I' L') : f_X4_remember v0 Z I L Q := by
  unfold f_X4_remember
  have q_I : FR Ws_X4_remember Z I Z I := FR.rf
  have t2 : 0 ≤ (I v0 4).toInt ∧ (I v0 4).toInt ≤ 8 := w_I.fld 4 4 kv0 (by decide)
  refine ⟨fun c3 => ?_, fun c3 => ?_⟩
  · skip
    first | (have t4 : ¬ ((I v0 4).toInt = (8)) := (not_congr (i_eq rfl (show (8 : Int32).toInt = 8 from rfl))).mp c3) | (have t4 : ¬ ((I v0 4).toInt = (8 : Int32).toInt) := (not_congr (i_eq rfl rfl)).mp c3) | skip
    unfold f_X4_remember_b32
    have t6 : 0 ≤ (I v0 3).toInt ∧ (I v0 3).toInt ≤ 7 := w_I.fld 4 3 kv0 (by decide)
    have t8 : 0 ≤ (I v0 4).toInt ∧ (I v0 4).toInt ≤ 8 := w_I.fld 4 4 kv0 (by decide)
    intro x9 ex9
    have rx9 := i_rng x9
    first | (have tx9 : x9.toInt = (((I v0 3).toInt + (I v0 4).toInt) % (8)) := by (rw [ex9]; exact (i_rem (i_add rfl rfl (by omega) (by omega)) (show (8 : Int32).toInt = 8 from rfl) (by omega) (by omega)))) | (have tx9 : x9.toInt = (((I v0 3) + (I v0 4)) - ((I v0 3) + (I v0 4)) / (8 : Int32) * (8 : Int32)).toInt := by rw [ex9])
    intro b10 eb10
    obtain ⟨x11, ex11, kb10, lb10⟩ := sh_f w_I.1 kv0 (j := 0) (k := 14) (m := 192) rfl
    cases eb10.symm.trans ex11
    intro b12 eb12
    obtain ⟨x13, ex13, kb12, lb12⟩ := sh_f w_I.1 kv0 (j := 2) (k := 14) (m := 1536) rfl
    cases eb12.symm.trans ex13
    have t14 : (0 : Int32).toInt = 0 := rfl
    try (have t15 : (x9 * (192 : Int32)).toInt = (x9.toInt * (192)) := (i_mul rfl (show (192 : Int32).toInt = 192 from rfl) (by omega) (by omega)))
    have t16 : (192 : Int32).toInt = 192 := rfl
    have t17 := i_nat (x := (0 : Int32)) (show (0 : Int32).toInt = 0 from rfl) (by omega)
    have t18 := i_nat (x := (x9 * (192 : Int32))) (i_mul rfl (show (192 : Int32).toInt = 192 from rfl) (by omega) (by omega)) (by omega)
    have t19 := i_nat (x := (192 : Int32)) (show (192 : Int32).toInt = 192 from rfl) (by omega)
    refine ⟨⟨(not_congr (i_lt (show (0 : Int32).toInt = 0 from rfl) (show (0 : Int32).toInt = 0 from rfl))).mpr (by omega), (not_congr (i_lt (i_mul rfl (show (192 : Int32).toInt = 192 from rfl) (by omega) (by omega)) (show (0 : Int32).toInt = 0 from rfl))).mpr (by omega), (not_congr (i_lt (show (192 : Int32).toInt = 192 from rfl) (show (0 : Int32).toInt = 0 from rfl))).mpr (by omega), by omega, by omega⟩, ?_⟩
    intro I20 eI20
    have w_I20 : WD Z I20 := by rw [eI20]; exact WD_cpy w_I 4 2 kv0 eb12 kb12 rfl rfl (by decide) (fun _ _ _ => trivial)
    have f_I20 : FR [(4, 2)] Z I Z I20 := by rw [eI20]; exact FR_upA w_I.2.1 kv0 eb12 kb12 rfl rfl List.mem_cons_self
    have q_I20 : FR Ws_X4_remember Z I Z I20 := q_I.trans w_I.1 w_I.2.1 (f_I20.mono (by decide))
    have u21 : (I20 v0 4).toInt = (I v0 4).toInt := by rw [f_I20.2.2.1 v0 4 4 kv0 (by decide) (by decide)]
    have u22 : (I20 v0 3).toInt = (I v0 3).toInt := by rw [f_I20.2.2.1 v0 4 3 kv0 (by decide) (by decide)]
    have t24 : 0 ≤ (I20 v0 4).toInt ∧ (I20 v0 4).toInt ≤ 8 := w_I20.fld 4 4 kv0 (by decide)
    intro I25 eI25
    try (have t26 : ((I20 v0 4) + (1 : Int32)).toInt = ((I20 v0 4).toInt + (1)) := (i_add rfl (show (1 : Int32).toInt = 1 from rfl) (by omega) (by omega)))
    have w_I25 : WD Z I25 := by rw [eI25]; exact WD_putF w_I20 4 4 kv0 (by decide) (by decide) (by constructor <;> omega)
    have f_I25 : FR [(4, 4)] Z I20 Z I25 := by rw [eI25]; exact FR_putF kv0 (by decide) List.mem_cons_self
    have q_I25 : FR Ws_X4_remember Z I Z I25 := q_I20.trans w_I.1 w_I.2.1 (f_I25.mono (by decide))
    have u27 : (I25 v0 3).toInt = (I20 v0 3).toInt := by rw [f_I25.2.2.1 v0 4 3 kv0 (by decide) (by decide)]
    first | (have u28 : (I25 v0 4).toInt = ((I20 v0 4).toInt + (1)) := by (rw [eI25, show jpI I20 v0 4 ((I20 v0 4) + (1 : Int32)) v0 4 = ((I20 v0 4) + (1 : Int32)) from jpI_at] <;> exact (i_add rfl (show (1 : Int32).toInt = 1 from rfl) (by omega) (by omega)))) | skip
    exact hQ  I25 L w_I25 q_I25 
  · skip
    first | (have t29 : (I v0 4).toInt = (8) := (i_eq rfl (show (8 : Int32).toInt = 8 from rfl)).mp c3) | (have t29 : (I v0 4).toInt = (8 : Int32).toInt := (i_eq rfl rfl).mp c3) | skip
    have t31 : 0 ≤ (I v0 3).toInt ∧ (I v0 3).toInt ≤ 7 := w_I.fld 4 3 kv0 (by decide)
    intro I32 eI32
    try (have t33 : (((I v0 3) + (1 : Int32)) - ((I v0 3) + (1 : Int32)) / (8 : Int32) * (8 : Int32)).toInt = (((I v0 3).toInt + (1)) % (8)) := (i_rem (i_add rfl (show (1 : Int32).toInt = 1 from rfl) (by omega) (by omega)) (show (8 : Int32).toInt = 8 from rfl) (by omega) (by omega)))
    have w_I32 : WD Z I32 := by rw [eI32]; exact WD_putF w_I 4 3 kv0 (by decide) (by decide) (by constructor <;> omega)
    have f_I32 : FR [(4, 3)] Z I Z I32 := by rw [eI32]; exact FR_putF kv0 (by decide) List.mem_cons_self
    have q_I32 : FR Ws_X4_remember Z I Z I32 := q_I.trans w_I.1 w_I.2.1 (f_I32.mono (by decide))
    have u34 : (I32 v0 4).toInt = (I v0 4).toInt := by rw [f_I32.2.2.1 v0 4 4 kv0 (by decide) (by decide)]
    first | (have u35 : (I32 v0 3).toInt = (((I v0 3).toInt + (1)) % (8)) := by (rw [eI32, show jpI I v0 3 (((I v0 3) + (1 : Int32)) - ((I v0 3) + (1 : Int32)) / (8 : Int32) * (8 : Int32)) v0 3 = (((I v0 3) + (1 : Int32)) - ((I v0 3) + (1 : Int32)) / (8 : Int32) * (8 : Int32)) from jpI_at] <;> exact (i_rem (i_add rfl (show (1 : Int32).toInt = 1 from rfl) (by omega) (by omega)) (show (8 : Int32).toInt = 8 from rfl) (by omega) (by omega)))) | skip
    have t37 : 0 ≤ (I32 v0 4).toInt ∧ (I32 v0 4).toInt ≤ 8 := w_I32.fld 4 4 kv0 (by decide)
    intro I38 eI38
    try (have t39 : ((I32 v0 4) - (1 : Int32)).toInt = ((I32 v0 4).toInt - (1)) := (i_sub rfl (show (1 : Int32).toInt = 1 from rfl) (by omega) (by omega)))
    have w_I38 : WD Z I38 := by rw [eI38]; exact WD_putF w_I32 4 4 kv0 (by decide) (by decide) (by constructor <;> omega)
    have f_I38 : FR [(4, 4)] Z I32 Z I38 := by rw [eI38]; exact FR_putF kv0 (by decide) List.mem_cons_self
    have q_I38 : FR Ws_X4_remember Z I Z I38 := q_I32.trans w_I.1 w_I.2.1 (f_I38.mono (by decide))
    have u40 : (I38 v0 3).toInt = (I32 v0 3).toInt := by rw [f_I38.2.2.1 v0 4 3 kv0 (by decide) (by decide)]
    first | (have u41 : (I38 v0 4).toInt = ((I32 v0 4).toInt - (1)) := by (rw [eI38, show jpI I32 v0 4 ((I32 v0 4) - (1 : Int32)) v0 4 = ((I32 v0 4) - (1 : Int32)) from jpI_at] <;> exact (i_sub rfl (show (1 : Int32).toInt = 1 from rfl) (by omega) (by omega)))) | skip
    unfold f_X4_remember_b32
    have t43 : 0 ≤ (I38 v0 3).toInt ∧ (I38 v0 3).toInt ≤ 7 := w_I38.fld 4 3 kv0 (by decide)
    have t45 : 0 ≤ (I38 v0 4).toInt ∧ (I38 v0 4).toInt ≤ 8 := w_I38.fld 4 4 kv0 (by decide)
    intro x46 ex46
    have rx46 := i_rng x46
    first | (have tx46 : x46.toInt = (((I38 v0 3).toInt + (I38 v0 4).toInt) % (8)) := by (rw [ex46]; exact (i_rem (i_add rfl rfl (by omega) (by omega)) (show (8 : Int32).toInt = 8 from rfl) (by omega) (by omega)))) | (have tx46 : x46.toInt = (((I38 v0 3) + (I38 v0 4)) - ((I38 v0 3) + (I38 v0 4)) / (8 : Int32) * (8 : Int32)).toInt := by rw [ex46])
    intro b47 eb47
    obtain ⟨x48, ex48, kb47, lb47⟩ := sh_f w_I38.1 kv0 (j := 0) (k := 14) (m := 192) rfl
    cases eb47.symm.trans ex48
    intro b49 eb49
    obtain ⟨x50, ex50, kb49, lb49⟩ := sh_f w_I38.1 kv0 (j := 2) (k := 14) (m := 1536) rfl
    cases eb49.symm.trans ex50
    have t51 : (0 : Int32).toInt = 0 := rfl
    try (have t52 : (x46 * (192 : Int32)).toInt = (x46.toInt * (192)) := (i_mul rfl (show (192 : Int32).toInt = 192 from rfl) (by omega) (by omega)))
    have t53 : (192 : Int32).toInt = 192 := rfl
    have t54 := i_nat (x := (0 : Int32)) (show (0 : Int32).toInt = 0 from rfl) (by omega)
    have t55 := i_nat (x := (x46 * (192 : Int32))) (i_mul rfl (show (192 : Int32).toInt = 192 from rfl) (by omega) (by omega)) (by omega)
    have t56 := i_nat (x := (192 : Int32)) (show (192 : Int32).toInt = 192 from rfl) (by omega)
    refine ⟨⟨(not_congr (i_lt (show (0 : Int32).toInt = 0 from rfl) (show (0 : Int32).toInt = 0 from rfl))).mpr (by omega), (not_congr (i_lt (i_mul rfl (show (192 : Int32).toInt = 192 from rfl) (by omega) (by omega)) (show (0 : Int32).toInt = 0 from rfl))).mpr (by omega), (not_congr (i_lt (show (192 : Int32).toInt = 192 from rfl) (show (0 : Int32).toInt = 0 from rfl))).mpr (by omega), by omega, by omega⟩, ?_⟩
    intro I57 eI57
    have w_I57 : WD Z I57 := by rw [eI57]; exact WD_cpy w_I38 4 2 kv0 eb49 kb49 rfl rfl (by decide) (fun _ _ _ => trivial)
    have f_I57 : FR [(4, 2)] Z I38 Z I57 := by rw [eI57]; exact FR_upA w_I38.2.1 kv0 eb49 kb49 rfl rfl List.mem_cons_self
    have q_I57 : FR Ws_X4_remember Z I Z I57 := q_I38.trans w_I.1 w_I.2.1 (f_I57.mono (by decide))
    have u58 : (I57 v0 3).toInt = (I38 v0 3).toInt := by rw [f_I57.2.2.1 v0 4 3 kv0 (by decide) (by decide)]
    have u59 : (I57 v0 4).toInt = (I38 v0 4).toInt := by rw [f_I57.2.2.1 v0 4 4 kv0 (by decide) (by decide)]
    have t61 : 0 ≤ (I57 v0 4).toInt ∧ (I57 v0 4).toInt ≤ 8 := w_I57.fld 4 4 kv0 (by decide)
    intro I62 eI62
    try (have t63 : ((I57 v0 4) + (1 : Int32)).toInt = ((I57 v0 4).toInt + (1)) := (i_add rfl (show (1 : Int32).toInt = 1 from rfl) (by omega) (by omega)))
    have w_I62 : WD Z I62 := by rw [eI62]; exact WD_putF w_I57 4 4 kv0 (by decide) (by decide) (by constructor <;> omega)
    have f_I62 : FR [(4, 4)] Z I57 Z I62 := by rw [eI62]; exact FR_putF kv0 (by decide) List.mem_cons_self
    have q_I62 : FR Ws_X4_remember Z I Z I62 := q_I57.trans w_I.1 w_I.2.1 (f_I62.mono (by decide))
    have u64 : (I62 v0 3).toInt = (I57 v0 3).toInt := by rw [f_I62.2.2.1 v0 4 3 kv0 (by decide) (by decide)]
    first | (have u65 : (I62 v0 4).toInt = ((I57 v0 4).toInt + (1)) := by (rw [eI62, show jpI I57 v0 4 ((I57 v0 4) + (1 : Int32)) v0 4 = ((I57 v0 4) + (1 : Int32)) from jpI_at] <;> exact (i_add rfl (show (1 : Int32).toInt = 1 from rfl) (by omega) (by omega)))) | skip
    exact hQ  I62 L w_I62 q_I62 
def Ws_X4_takeBack : List (Nat × Nat) := [(4, 0), (4, 1), (4, 4)]
set_option maxHeartbeats 4000000 in
set_option maxRecDepth 100000 in
theorem s_X4_takeBack {Z : jZ} {I : jI} {L : jL} (w_I : WD Z I) (v0 : Nat) (kv0 : jk Z v0 4) {Q : Int32 → jI → jL → Prop} (hQ : ∀ (r : Int32) (I' : jI) (L' : jL), WD Z I' → FR Ws_X4_takeBack Z I Z I' → Q r I' L') : f_X4_takeBack v0 Z I L Q := by
  unfold f_X4_takeBack
  have q_I : FR Ws_X4_takeBack Z I Z I := FR.rf
  have t2 : 0 ≤ (I v0 4).toInt ∧ (I v0 4).toInt ≤ 8 := w_I.fld 4 4 kv0 (by decide)
  refine ⟨fun c3 => ?_, fun c3 => ?_⟩
  · skip
    first | (have t4 : ¬ ((I v0 4).toInt = (0)) := (not_congr (i_eq rfl (show (0 : Int32).toInt = 0 from rfl))).mp c3) | (have t4 : ¬ ((I v0 4).toInt = (0 : Int32).toInt) := (not_congr (i_eq rfl rfl)).mp c3) | skip
    have t6 : 0 ≤ (I v0 4).toInt ∧ (I v0 4).toInt ≤ 8 := w_I.fld 4 4 kv0 (by decide)
    intro I7 eI7
    try (have t8 : ((I v0 4) - (1 : Int32)).toInt = ((I v0 4).toInt - (1)) := (i_sub rfl (show (1 : Int32).toInt = 1 from rfl) (by omega) (by omega)))
    have w_I7 : WD Z I7 := by rw [eI7]; exact WD_putF w_I 4 4 kv0 (by decide) (by decide) (by constructor <;> omega)
    have f_I7 : FR [(4, 4)] Z I Z I7 := by rw [eI7]; exact FR_putF kv0 (by decide) List.mem_cons_self
    have q_I7 : FR Ws_X4_takeBack Z I Z I7 := q_I.trans w_I.1 w_I.2.1 (f_I7.mono (by decide))
    first | (have u9 : (I7 v0 4).toInt = ((I v0 4).toInt - (1)) := by (rw [eI7, show jpI I v0 4 ((I v0 4) - (1 : Int32)) v0 4 = ((I v0 4) - (1 : Int32)) from jpI_at] <;> exact (i_sub rfl (show (1 : Int32).toInt = 1 from rfl) (by omega) (by omega)))) | skip
    have t11 : 0 ≤ (I7 v0 3).toInt ∧ (I7 v0 3).toInt ≤ 7 := w_I7.fld 4 3 kv0 (by decide)
    have t13 : 0 ≤ (I7 v0 4).toInt ∧ (I7 v0 4).toInt ≤ 8 := w_I7.fld 4 4 kv0 (by decide)
    intro x14 ex14
    have rx14 := i_rng x14
    first | (have tx14 : x14.toInt = (((I7 v0 3).toInt + (I7 v0 4).toInt) % (8)) := by (rw [ex14]; exact (i_rem (i_add rfl rfl (by omega) (by omega)) (show (8 : Int32).toInt = 8 from rfl) (by omega) (by omega)))) | (have tx14 : x14.toInt = (((I7 v0 3) + (I7 v0 4)) - ((I7 v0 3) + (I7 v0 4)) / (8 : Int32) * (8 : Int32)).toInt := by rw [ex14])
    intro b15 eb15
    obtain ⟨x16, ex16, kb15, lb15⟩ := sh_f w_I7.1 kv0 (j := 2) (k := 14) (m := 1536) rfl
    cases eb15.symm.trans ex16
    intro b17 eb17
    obtain ⟨x18, ex18, kb17, lb17⟩ := sh_f w_I7.1 kv0 (j := 0) (k := 14) (m := 192) rfl
    cases eb17.symm.trans ex18
    try (have t19 : (x14 * (192 : Int32)).toInt = (x14.toInt * (192)) := (i_mul rfl (show (192 : Int32).toInt = 192 from rfl) (by omega) (by omega)))
    have t20 : (0 : Int32).toInt = 0 := rfl
    have t21 : (192 : Int32).toInt = 192 := rfl
    have t22 := i_nat (x := (x14 * (192 : Int32))) (i_mul rfl (show (192 : Int32).toInt = 192 from rfl) (by omega) (by omega)) (by omega)
    have t23 := i_nat (x := (0 : Int32)) (show (0 : Int32).toInt = 0 from rfl) (by omega)
    have t24 := i_nat (x := (192 : Int32)) (show (192 : Int32).toInt = 192 from rfl) (by omega)
    refine ⟨⟨(not_congr (i_lt (i_mul rfl (show (192 : Int32).toInt = 192 from rfl) (by omega) (by omega)) (show (0 : Int32).toInt = 0 from rfl))).mpr (by omega), (not_congr (i_lt (show (0 : Int32).toInt = 0 from rfl) (show (0 : Int32).toInt = 0 from rfl))).mpr (by omega), (not_congr (i_lt (show (192 : Int32).toInt = 192 from rfl) (show (0 : Int32).toInt = 0 from rfl))).mpr (by omega), by omega, by omega⟩, ?_⟩
    intro I25 eI25
    have w_I25 : WD Z I25 := by rw [eI25]; exact WD_cpy w_I7 4 0 kv0 eb17 kb17 rfl rfl (by decide) (fun _ _ _ => trivial)
    have f_I25 : FR [(4, 0)] Z I7 Z I25 := by rw [eI25]; exact FR_upA w_I7.2.1 kv0 eb17 kb17 rfl rfl List.mem_cons_self
    have q_I25 : FR Ws_X4_takeBack Z I Z I25 := q_I7.trans w_I.1 w_I.2.1 (f_I25.mono (by decide))
    have u26 : (I25 v0 4).toInt = (I7 v0 4).toInt := by rw [f_I25.2.2.1 v0 4 4 kv0 (by decide) (by decide)]
    have u27 : (I25 v0 3).toInt = (I7 v0 3).toInt := by rw [f_I25.2.2.1 v0 4 3 kv0 (by decide) (by decide)]
    refine s_X4_findMains w_I25 v0 kv0   (fun  I28 L29 w_I28 f_I28  => ?_)
    have q_I28 : FR Ws_X4_takeBack Z I Z I28 := q_I25.trans w_I.1 w_I.2.1 (f_I28.mono (by decide))
    have u30 : (I28 v0 4).toInt = (I25 v0 4).toInt := by rw [f_I28.2.2.1 v0 4 4 kv0 (by decide) (by decide)]
    have u31 : (I28 v0 3).toInt = (I25 v0 3).toInt := by rw [f_I28.2.2.1 v0 4 3 kv0 (by decide) (by decide)]
    have t32 : (1 : Int32).toInt = 1 := rfl
    exact hQ (1 : Int32) I28 L29 w_I28 q_I28 
  · skip
    first | (have t33 : (I v0 4).toInt = (0) := (i_eq rfl (show (0 : Int32).toInt = 0 from rfl)).mp c3) | (have t33 : (I v0 4).toInt = (0 : Int32).toInt := (i_eq rfl rfl).mp c3) | skip
    have t34 : (0 : Int32).toInt = 0 := rfl
    exact hQ (0 : Int32) I L w_I q_I 
def Ws_X4_move : List (Nat × Nat) := [(4, 0), (4, 1)]
set_option maxHeartbeats 4000000 in
set_option maxRecDepth 100000 in
theorem s_X4_move {Z : jZ} {I : jI} {L : jL} (w_I : WD Z I) (v0 : Nat) (v1 : Int32) (v2 : Int32) (v3 : Int32) (v4 : Int32) (kv0 : jk Z v0 4) {Q : jI → jL → Prop} (hQ : ∀  (I' : jI) (L' : jL), WD Z I' → FR Ws_X4_move Z I Z I' → Q I' L') : f_X4_move v0 v1 v2 v3 v4 Z I L Q := by
  unfold f_X4_move
  have q_I : FR Ws_X4_move Z I Z I := FR.rf
  have rv1 := i_rng v1
  have rv2 := i_rng v2
  have rv3 := i_rng v3
  have rv4 := i_rng v4
  refine ⟨fun c1 => ?_, fun c1 => ?_⟩
  · skip
    first | (have t2 : v1.toInt < (0) := (i_lt rfl (show (0 : Int32).toInt = 0 from rfl)).mp c1) | (have t2 : v1.toInt < (0 : Int32).toInt := (i_lt rfl rfl).mp c1) | skip
    exact hQ  I L w_I q_I 
  · skip
    first | (have t3 : ¬ (v1.toInt < (0)) := (not_congr (i_lt rfl (show (0 : Int32).toInt = 0 from rfl))).mp c1) | (have t3 : ¬ (v1.toInt < (0 : Int32).toInt) := (not_congr (i_lt rfl rfl)).mp c1) | skip
    refine ⟨fun c4 => ?_, fun c4 => ?_⟩
    · skip
      first | (have t5 : (24) ≤ v1.toInt := (i_le (show (24 : Int32).toInt = 24 from rfl) rfl).mp c4) | (have t5 : (24 : Int32).toInt ≤ v1.toInt := (i_le rfl rfl).mp c4) | skip
      exact hQ  I L w_I q_I 
    · skip
      first | (have t6 : ¬ ((24) ≤ v1.toInt) := (not_congr (i_le (show (24 : Int32).toInt = 24 from rfl) rfl)).mp c4) | (have t6 : ¬ ((24 : Int32).toInt ≤ v1.toInt) := (not_congr (i_le rfl rfl)).mp c4) | skip
      refine s_X11_isFamily w_I v2    (fun r7 p8 => ?_)
      have rr7 := i_rng r7
      refine ⟨fun c9 => ?_, fun c9 => ?_⟩
      · skip
        first | (have t10 : r7.toInt = (0) := (i_eq rfl (show (0 : Int32).toInt = 0 from rfl)).mp c9) | (have t10 : r7.toInt = (0 : Int32).toInt := (i_eq rfl rfl).mp c9) | skip
        exact hQ  I L w_I q_I 
      · skip
        first | (have t11 : ¬ (r7.toInt = (0)) := (not_congr (i_eq rfl (show (0 : Int32).toInt = 0 from rfl))).mp c9) | (have t11 : ¬ (r7.toInt = (0 : Int32).toInt) := (not_congr (i_eq rfl rfl)).mp c9) | skip
        refine s_X11_isFamily w_I v3    (fun r12 p13 => ?_)
        have rr12 := i_rng r12
        refine ⟨fun c14 => ?_, fun c14 => ?_⟩
        · skip
          first | (have t15 : r12.toInt = (0) := (i_eq rfl (show (0 : Int32).toInt = 0 from rfl)).mp c14) | (have t15 : r12.toInt = (0 : Int32).toInt := (i_eq rfl rfl).mp c14) | skip
          exact hQ  I L w_I q_I 
        · skip
          first | (have t16 : ¬ (r12.toInt = (0)) := (not_congr (i_eq rfl (show (0 : Int32).toInt = 0 from rfl))).mp c14) | (have t16 : ¬ (r12.toInt = (0 : Int32).toInt) := (not_congr (i_eq rfl rfl)).mp c14) | skip
          intro b17 eb17
          obtain ⟨x18, ex18, kb17, lb17⟩ := sh_f w_I.1 kv0 (j := 0) (k := 14) (m := 192) rfl
          cases eb17.symm.trans ex18
          have o19 : vp_in ((v1 * (8 : Int32)) + v2) 192 := vi_of (i_add (i_mul rfl (show (8 : Int32).toInt = 8 from rfl) (by omega) (by omega)) rfl (by omega) (by omega)) (by omega) (by omega)
          refine ⟨o19, ?_⟩
          have o20 : vp_in ((v1 * (8 : Int32)) + v2) 192 := vi_of (i_add (i_mul rfl (show (8 : Int32).toInt = 8 from rfl) (by omega) (by omega)) rfl (by omega) (by omega)) (by omega) (by omega)
          refine ⟨o20, ?_⟩
          intro I21 eI21
          try (have t22 : ((I b17 ((v1 * (8 : Int32)) + v2).toNatClampNeg) - v4).toInt = ((I b17 ((v1 * (8 : Int32)) + v2).toNatClampNeg).toInt - v4.toInt) := (i_sub rfl rfl (by omega) (by omega)))
          have w_I21 : WD Z I21 := by rw [eI21]; exact WD_putA w_I 4 0 kv0 eb17 kb17 rfl rfl (by decide) trivial
          have f_I21 : FR [(4, 0)] Z I Z I21 := by rw [eI21]; exact FR_upA w_I.2.1 kv0 eb17 kb17 rfl rfl List.mem_cons_self
          have q_I21 : FR Ws_X4_move Z I Z I21 := q_I.trans w_I.1 w_I.2.1 (f_I21.mono (by decide))
          intro b23 eb23
          obtain rfl : b17 = b23 := Option.some.inj (eb17.symm.trans eb23)
          have o24 : vp_in ((v1 * (8 : Int32)) + v3) 192 := vi_of (i_add (i_mul rfl (show (8 : Int32).toInt = 8 from rfl) (by omega) (by omega)) rfl (by omega) (by omega)) (by omega) (by omega)
          refine ⟨o24, ?_⟩
          have o25 : vp_in ((v1 * (8 : Int32)) + v3) 192 := vi_of (i_add (i_mul rfl (show (8 : Int32).toInt = 8 from rfl) (by omega) (by omega)) rfl (by omega) (by omega)) (by omega) (by omega)
          refine ⟨o25, ?_⟩
          intro I26 eI26
          try (have t27 : ((I21 b17 ((v1 * (8 : Int32)) + v3).toNatClampNeg) + v4).toInt = ((I21 b17 ((v1 * (8 : Int32)) + v3).toNatClampNeg).toInt + v4.toInt) := (i_add rfl rfl (by omega) (by omega)))
          have w_I26 : WD Z I26 := by rw [eI26]; exact WD_putA w_I21 4 0 kv0 eb17 kb17 rfl rfl (by decide) trivial
          have f_I26 : FR [(4, 0)] Z I21 Z I26 := by rw [eI26]; exact FR_upA w_I21.2.1 kv0 eb17 kb17 rfl rfl List.mem_cons_self
          have q_I26 : FR Ws_X4_move Z I Z I26 := q_I21.trans w_I.1 w_I.2.1 (f_I26.mono (by decide))
          refine s_X4_findMain w_I26 v0 v1 kv0  (by omega) (fun  I28 L29 w_I28 f_I28  => ?_)
          have q_I28 : FR Ws_X4_move Z I Z I28 := q_I26.trans w_I.1 w_I.2.1 (f_I28.mono (by decide))
          exact hQ  I28 L29 w_I28 q_I28 
set_option maxHeartbeats 4000000 in
set_option maxRecDepth 100000 in
theorem s_J6_bitCount_0f7a4 {Z : jZ} {I : jI} {L : jL} (w_I : WD Z I) (v0 : Int32) {Q : Int32 → jI → jL → Prop} (hQ : ∀ (r : Int32), (r = bcV v0 ∧ (1 ≤ v0.toInt → v0.toInt ≤ 255 → ¬ r.toInt = 0)) → Q r I L) : f_J6_bitCount_0f7a4 v0 Z I L Q := by
  unfold f_J6_bitCount_0f7a4
  have rv0 := i_rng v0
  intro x1 ex1
  have rx1 := i_rng x1
  first | (have tx1 : x1.toInt = (v0.toInt - (((v0.toUInt32 >>> ((1 : Int32).toUInt32 &&& Int32.toUInt32 31)).toInt32) &&& (1431655765 : Int32)).toInt) := by (rw [ex1]; exact (i_sub rfl rfl (by omega) (by omega)))) | (have tx1 : x1.toInt = (v0 - (((v0.toUInt32 >>> ((1 : Int32).toUInt32 &&& Int32.toUInt32 31)).toInt32) &&& (1431655765 : Int32))).toInt := by rw [ex1])
  intro x2 ex2
  have rx2 := i_rng x2
  first | (have tx2 : x2.toInt = ((x1 &&& (858993459 : Int32)).toInt + (((x1.toUInt32 >>> ((2 : Int32).toUInt32 &&& Int32.toUInt32 31)).toInt32) &&& (858993459 : Int32)).toInt) := by (rw [ex2]; exact (i_add rfl rfl (by omega) (by omega)))) | (have tx2 : x2.toInt = ((x1 &&& (858993459 : Int32)) + (((x1.toUInt32 >>> ((2 : Int32).toUInt32 &&& Int32.toUInt32 31)).toInt32) &&& (858993459 : Int32))).toInt := by rw [ex2])
  intro x3 ex3
  have rx3 := i_rng x3
  first | (have tx3 : x3.toInt = ((x2 + ((x2.toUInt32 >>> ((4 : Int32).toUInt32 &&& Int32.toUInt32 31)).toInt32)) &&& (252645135 : Int32)).toInt := by (rw [ex3]; exact rfl)) | (have tx3 : x3.toInt = ((x2 + ((x2.toUInt32 >>> ((4 : Int32).toUInt32 &&& Int32.toUInt32 31)).toInt32)) &&& (252645135 : Int32)).toInt := by rw [ex3])
  intro x4 ex4
  have rx4 := i_rng x4
  first | (have tx4 : x4.toInt = (x3.toInt + ((x3.toUInt32 >>> ((8 : Int32).toUInt32 &&& Int32.toUInt32 31)).toInt32).toInt) := by (rw [ex4]; exact (i_add rfl rfl (by omega) (by omega)))) | (have tx4 : x4.toInt = (x3 + ((x3.toUInt32 >>> ((8 : Int32).toUInt32 &&& Int32.toUInt32 31)).toInt32)).toInt := by rw [ex4])
  intro x5 ex5
  have rx5 := i_rng x5
  first | (have tx5 : x5.toInt = (x4.toInt + ((x4.toUInt32 >>> ((16 : Int32).toUInt32 &&& Int32.toUInt32 31)).toInt32).toInt) := by (rw [ex5]; exact (i_add rfl rfl (by omega) (by omega)))) | (have tx5 : x5.toInt = (x4 + ((x4.toUInt32 >>> ((16 : Int32).toUInt32 &&& Int32.toUInt32 31)).toInt32)).toInt := by rw [ex5])
  have t6 : 0 ≤ (x5 &&& (63 : Int32)).toInt ∧ (x5 &&& (63 : Int32)).toInt < 2 ^ 6 := i_and (n := 6) (by decide)
  exact hQ (x5 &&& (63 : Int32)) (by exact (fun hb => ⟨hb, fun h1 h2 => by rw [hb]; exact bc_pos h1 h2⟩) (show (x5 &&& (63 : Int32)) = bcV v0 from by subst_vars; rfl))
def Ws_X4_inherit : List (Nat × Nat) := [(4, 0), (4, 1)]
set_option maxHeartbeats 4000000 in
set_option maxRecDepth 100000 in
theorem l_X4_inherit_L30 {Z : jZ} {I0 : jI} {Q : jI → jL → Prop} (w0 : WD Z I0) (v0 : Nat) (v1 : Int32) (v2 : Int32) (v3 : Int32) (kv0 : jk Z v0 4) (v4 : Int32) (v5 : Int32) (hQ : ∀  (I' : jI) (L' : jL), WD Z I' → FR Ws_X4_inherit Z I0 Z I' → Q I' L') : ∀ (n : Nat) (v6 : Int32) (v7 : Int32) (I : jI) (L : jL), WD Z I → FR Ws_X4_inherit Z I0 Z I →   (0 ≤ v7.toInt ∧ v7.toInt ≤ 8 ∧ ¬ v5.toInt = 0) → 8 - v7.toInt < (n : Int) → f_X4_inherit_L30  Z Q n v0 v1 v2 v3 v4 v5 v6 v7 I L := by
  intro n
  induction n with
  | zero =>
    intro v6 v7 I L w_I q_I   li  me
    exfalso
    omega
  | succ n ih =>
    intro v6 v7 I L w_I q_I   li  me
    unfold f_X4_inherit_L30
    have rv6 := i_rng v6
    have rv7 := i_rng v7
    have rv4 := i_rng v4
    have rv5 := i_rng v5
    have rv1 := i_rng v1
    have rv2 := i_rng v2
    have rv3 := i_rng v3
    refine ⟨fun c1 => ?_, fun c1 => ?_⟩
    · skip
      first | (have t2 : (8) ≤ v7.toInt := (i_le (show (8 : Int32).toInt = 8 from rfl) rfl).mp c1) | (have t2 : (8 : Int32).toInt ≤ v7.toInt := (i_le rfl rfl).mp c1) | skip
      exact hQ  I L w_I q_I 
    · skip
      first | (have t3 : ¬ ((8) ≤ v7.toInt) := (not_congr (i_le (show (8 : Int32).toInt = 8 from rfl) rfl)).mp c1) | (have t3 : ¬ ((8 : Int32).toInt ≤ v7.toInt) := (not_congr (i_le rfl rfl)).mp c1) | skip
      have t4 : 0 ≤ ((v3 >>> (v7 &&& 31)) &&& (1 : Int32)).toInt ∧ ((v3 >>> (v7 &&& 31)) &&& (1 : Int32)).toInt < 2 ^ 1 := i_and (n := 1) (by decide)
      refine ⟨fun c5 => ?_, fun c5 => ?_⟩
      · skip
        first | (have t6 : ((v3 >>> (v7 &&& 31)) &&& (1 : Int32)).toInt = (0) := (i_eq rfl (show (0 : Int32).toInt = 0 from rfl)).mp c5) | (have t6 : ((v3 >>> (v7 &&& 31)) &&& (1 : Int32)).toInt = (0 : Int32).toInt := (i_eq rfl rfl).mp c5) | skip
        unfold f_X4_inherit_b73
        intro x7 ex7
        have rx7 := i_rng x7
        first | (have tx7 : x7.toInt = v7.toInt + (1) := by (rw [ex7]; exact (i_add rfl (show (1 : Int32).toInt = 1 from rfl) (by omega) (by omega)))) | skip
        exact ih v6 x7 I L w_I q_I   (by omega)  (by omega)
      · skip
        first | (have t8 : ¬ (((v3 >>> (v7 &&& 31)) &&& (1 : Int32)).toInt = (0)) := (not_congr (i_eq rfl (show (0 : Int32).toInt = 0 from rfl))).mp c5) | (have t8 : ¬ (((v3 >>> (v7 &&& 31)) &&& (1 : Int32)).toInt = (0 : Int32).toInt) := (not_congr (i_eq rfl rfl)).mp c5) | skip
        refine ⟨(not_congr (i_eq rfl (show (0 : Int32).toInt = 0 from rfl))).mpr (by omega), ?_⟩
        refine ⟨fun c9 => ?_, fun c9 => ?_⟩
        · skip
          first | (have t10 : v6.toInt ≤ (0) := (i_le rfl (show (0 : Int32).toInt = 0 from rfl)).mp c9) | (have t10 : v6.toInt ≤ (0 : Int32).toInt := (i_le rfl rfl).mp c9) | skip
          unfold f_X4_inherit_b66
          try (have t11 : ((v4 / v5) + (0 : Int32)).toInt = ((v4 / v5).toInt + (0)) := (i_add rfl (show (0 : Int32).toInt = 0 from rfl) (by omega) (by omega)))
          refine s_X4_move w_I v0 v1 v2 v7 ((v4 / v5) + (0 : Int32)) kv0   (fun  I12 L13 w_I12 f_I12  => ?_)
          have q_I12 : FR Ws_X4_inherit Z I0 Z I12 := q_I.trans w0.1 w0.2.1 (f_I12.mono (by decide))
          intro x14 ex14
          have rx14 := i_rng x14
          first | (have tx14 : x14.toInt = v6.toInt + (-1) := by (rw [ex14]; exact (i_add rfl (show (-1 : Int32).toInt = -1 from rfl) (by omega) (by omega)))) | skip
          unfold f_X4_inherit_b73
          intro x15 ex15
          have rx15 := i_rng x15
          first | (have tx15 : x15.toInt = v7.toInt + (1) := by (rw [ex15]; exact (i_add rfl (show (1 : Int32).toInt = 1 from rfl) (by omega) (by omega)))) | skip
          exact ih x14 x15 I12 L13 w_I12 q_I12   (by omega)  (by omega)
        · skip
          first | (have t16 : ¬ (v6.toInt ≤ (0)) := (not_congr (i_le rfl (show (0 : Int32).toInt = 0 from rfl))).mp c9) | (have t16 : ¬ (v6.toInt ≤ (0 : Int32).toInt) := (not_congr (i_le rfl rfl)).mp c9) | skip
          unfold f_X4_inherit_b66
          try (have t17 : ((v4 / v5) + (1 : Int32)).toInt = ((v4 / v5).toInt + (1)) := (i_add rfl (show (1 : Int32).toInt = 1 from rfl) (by omega) (by omega)))
          refine s_X4_move w_I v0 v1 v2 v7 ((v4 / v5) + (1 : Int32)) kv0   (fun  I18 L19 w_I18 f_I18  => ?_)
          have q_I18 : FR Ws_X4_inherit Z I0 Z I18 := q_I.trans w0.1 w0.2.1 (f_I18.mono (by decide))
          intro x20 ex20
          have rx20 := i_rng x20
          first | (have tx20 : x20.toInt = v6.toInt + (-1) := by (rw [ex20]; exact (i_add rfl (show (-1 : Int32).toInt = -1 from rfl) (by omega) (by omega)))) | skip
          unfold f_X4_inherit_b73
          intro x21 ex21
          have rx21 := i_rng x21
          first | (have tx21 : x21.toInt = v7.toInt + (1) := by (rw [ex21]; exact (i_add rfl (show (1 : Int32).toInt = 1 from rfl) (by omega) (by omega)))) | skip
          exact ih x20 x21 I18 L19 w_I18 q_I18   (by omega)  (by omega)
set_option maxHeartbeats 4000000 in
set_option maxRecDepth 100000 in
theorem s_X4_inherit {Z : jZ} {I : jI} {L : jL} (w_I : WD Z I) (v0 : Nat) (v1 : Int32) (v2 : Int32) (v3 : Int32) (kv0 : jk Z v0 4) {Q : jI → jL → Prop} (hQ : ∀  (I' : jI) (L' : jL), WD Z I' → FR Ws_X4_inherit Z I Z I' → Q I' L') : f_X4_inherit v0 v1 v2 v3 Z I L Q := by
  unfold f_X4_inherit
  have q_I : FR Ws_X4_inherit Z I Z I := FR.rf
  have rv1 := i_rng v1
  have rv2 := i_rng v2
  have rv3 := i_rng v3
  refine s_X4_shareOf w_I v0 v1 v2 kv0   (fun r22  => ?_)
  have rr22 := i_rng r22
  refine s_J6_bitCount_0f7a4 w_I v3    (fun r23 p24 => ?_)
  have rr23 := i_rng r23
  refine ⟨fun c25 => ?_, fun c25 => ?_⟩
  · skip
    first | (have t26 : ¬ (r23.toInt = (0)) := (not_congr (i_eq rfl (show (0 : Int32).toInt = 0 from rfl))).mp c25) | (have t26 : ¬ (r23.toInt = (0 : Int32).toInt) := (not_congr (i_eq rfl rfl)).mp c25) | skip
    refine ⟨(not_congr (i_eq rfl (show (0 : Int32).toInt = 0 from rfl))).mpr (by omega), ?_⟩
    intro x27 ex27
    have rx27 := i_rng x27
    first | (have tx27 : x27.toInt = (r22 - r22 / r23 * r23).toInt := by (rw [ex27]; exact rfl)) | (have tx27 : x27.toInt = (r22 - r22 / r23 * r23).toInt := by rw [ex27])
    have t28 : (0 : Int32).toInt = 0 := rfl
    exact ⟨(8 - (0 : Int32).toInt).toNat + 1, l_X4_inherit_L30 w_I v0 v1 v2 v3 kv0 r22 r23  hQ   _ x27 (0 : Int32) I L w_I q_I   (by omega)  (by omega)⟩
  · skip
    first | (have t29 : r23.toInt = (0) := (i_eq rfl (show (0 : Int32).toInt = 0 from rfl)).mp c25) | (have t29 : r23.toInt = (0 : Int32).toInt := (i_eq rfl rfl).mp c25) | skip
    exact hQ  I L w_I q_I 
def Ws_X5_startAnew : List (Nat × Nat) := [(5, 5), (5, 6), (5, 7)]
set_option maxHeartbeats 4000000 in
set_option maxRecDepth 100000 in
theorem s_X5_startAnew {Z : jZ} {I : jI} {L : jL} (w_I : WD Z I) (v0 : Nat) (kv0 : jk Z v0 5) {Q : jI → jL → Prop} (hQ : ∀  (I' : jI) (L' : jL), WD Z I' → FR Ws_X5_startAnew Z I Z I' → Q I' L') : f_X5_startAnew v0 Z I L Q := by
  unfold f_X5_startAnew
  have q_I : FR Ws_X5_startAnew Z I Z I := FR.rf
  intro I1 eI1
  have t2 : (-1 : Int32).toInt = -1 := rfl
  have w_I1 : WD Z I1 := by rw [eI1]; exact WD_putF w_I 5 5 kv0 (by decide) (by decide) (by constructor <;> omega)
  have f_I1 : FR [(5, 5)] Z I Z I1 := by rw [eI1]; exact FR_putF kv0 (by decide) List.mem_cons_self
  have q_I1 : FR Ws_X5_startAnew Z I Z I1 := q_I.trans w_I.1 w_I.2.1 (f_I1.mono (by decide))
  first | (have u3 : (I1 v0 5).toInt = (-1) := by (rw [eI1, show jpI I v0 5 (-1 : Int32) v0 5 = (-1 : Int32) from jpI_at] <;> exact (show (-1 : Int32).toInt = -1 from rfl))) | skip
  intro I4 eI4
  have w_I4 : WD Z I4 := by rw [eI4]; exact WD_putF w_I1 5 6 kv0 (by decide) (by decide) trivial
  have f_I4 : FR [(5, 6)] Z I1 Z I4 := by rw [eI4]; exact FR_putF kv0 (by decide) List.mem_cons_self
  have q_I4 : FR Ws_X5_startAnew Z I Z I4 := q_I1.trans w_I.1 w_I.2.1 (f_I4.mono (by decide))
  have u5 : (I4 v0 5).toInt = (I1 v0 5).toInt := by rw [f_I4.2.2.1 v0 5 5 kv0 (by decide) (by decide)]
  have u6 : (I4 v0 0).toInt = (I1 v0 0).toInt := by rw [f_I4.2.2.1 v0 5 0 kv0 (by decide) (by decide)]
  first | (have u7 : (I4 v0 6).toInt = (I1 v0 0).toInt := by (rw [eI4, show jpI I1 v0 6 (I1 v0 0) v0 6 = (I1 v0 0) from jpI_at] <;> exact rfl)) | skip
  intro I8 eI8
  have w_I8 : WD Z I8 := by rw [eI8]; exact WD_putF w_I4 5 7 kv0 (by decide) (by decide) trivial
  have f_I8 : FR [(5, 7)] Z I4 Z I8 := by rw [eI8]; exact FR_putF kv0 (by decide) List.mem_cons_self
  have q_I8 : FR Ws_X5_startAnew Z I Z I8 := q_I4.trans w_I.1 w_I.2.1 (f_I8.mono (by decide))
  have u9 : (I8 v0 5).toInt = (I4 v0 5).toInt := by rw [f_I8.2.2.1 v0 5 5 kv0 (by decide) (by decide)]
  have u10 : (I8 v0 0).toInt = (I4 v0 0).toInt := by rw [f_I8.2.2.1 v0 5 0 kv0 (by decide) (by decide)]
  have u11 : (I8 v0 6).toInt = (I4 v0 6).toInt := by rw [f_I8.2.2.1 v0 5 6 kv0 (by decide) (by decide)]
  have u12 : (I8 v0 1).toInt = (I4 v0 1).toInt := by rw [f_I8.2.2.1 v0 5 1 kv0 (by decide) (by decide)]
  first | (have u13 : (I8 v0 7).toInt = (I4 v0 1).toInt := by (rw [eI8, show jpI I4 v0 7 (I4 v0 1) v0 7 = (I4 v0 1) from jpI_at] <;> exact rfl)) | skip
  exact hQ  I8 L w_I8 q_I8 
set_option maxHeartbeats 4000000 in
set_option maxRecDepth 100000 in
theorem s_X5_comesTo {Z : jZ} {I : jI} {L : jL} (w_I : WD Z I) (v0 : Nat) (v1 : Int32) (kv0 : jk Z v0 5) (p0 : 0 ≤ v1.toInt ∧ v1.toInt ≤ 23) {Q : Int32 → jI → jL → Prop} (hQ : ∀ (r : Int32), (r.toInt = 0 ∨ ((I v0 5).toInt < v1.toInt ∧ v1.toInt - (I v0 5).toInt ≤ 3)) → Q r I L) : f_X5_comesTo v0 v1 Z I L Q := by
  unfold f_X5_comesTo
  have rv1 := i_rng v1
  have t2 : -1 ≤ (I v0 5).toInt ∧ (I v0 5).toInt ≤ 23 := w_I.fld 5 5 kv0 (by decide)
  refine ⟨fun c3 => ?_, fun c3 => ?_⟩
  · skip
    first | (have t4 : v1.toInt ≤ (I v0 5).toInt := (i_le rfl rfl).mp c3) | (have t4 : v1.toInt ≤ (I v0 5).toInt := (i_le rfl rfl).mp c3) | skip
    have t5 : (0 : Int32).toInt = 0 := rfl
    exact hQ (0 : Int32) (by omega)
  · skip
    first | (have t6 : ¬ (v1.toInt ≤ (I v0 5).toInt) := (not_congr (i_le rfl rfl)).mp c3) | (have t6 : ¬ (v1.toInt ≤ (I v0 5).toInt) := (not_congr (i_le rfl rfl)).mp c3) | skip
    have t8 : -1 ≤ (I v0 5).toInt ∧ (I v0 5).toInt ≤ 23 := w_I.fld 5 5 kv0 (by decide)
    have t10 : 0 ≤ (I v0 2).toInt ∧ (I v0 2).toInt ≤ 3 := w_I.fld 5 2 kv0 (by decide)
    refine ⟨fun c11 => ?_, fun c11 => ?_⟩
    · skip
      first | (have t12 : (I v0 2).toInt < (v1.toInt - (I v0 5).toInt) := (i_lt rfl (i_sub rfl rfl (by omega) (by omega))).mp c11) | (have t12 : (I v0 2).toInt < (v1 - (I v0 5)).toInt := (i_lt rfl rfl).mp c11) | skip
      have t13 : (0 : Int32).toInt = 0 := rfl
      exact hQ (0 : Int32) (by omega)
    · skip
      first | (have t14 : ¬ ((I v0 2).toInt < (v1.toInt - (I v0 5).toInt)) := (not_congr (i_lt rfl (i_sub rfl rfl (by omega) (by omega)))).mp c11) | (have t14 : ¬ ((I v0 2).toInt < (v1 - (I v0 5)).toInt) := (not_congr (i_lt rfl rfl)).mp c11) | skip
      have t15 : (1 : Int32).toInt = 1 := rfl
      exact hQ (1 : Int32) (by omega)
set_option maxHeartbeats 4000000 in
set_option maxRecDepth 100000 in
theorem s_X5_vowsAgainst {Z : jZ} {I : jI} {L : jL} (w_I : WD Z I) (v0 : Nat) (v1 : Int32) (kv0 : jk Z v0 5) {Q : Int32 → jI → jL → Prop} (hQ : ∀ (r : Int32), Q r I L) : f_X5_vowsAgainst v0 v1 Z I L Q := by
  unfold f_X5_vowsAgainst
  have rv1 := i_rng v1
  have t1 : 0 ≤ (((I v0 4) >>> (v1 &&& 31)) &&& (1 : Int32)).toInt ∧ (((I v0 4) >>> (v1 &&& 31)) &&& (1 : Int32)).toInt < 2 ^ 1 := i_and (n := 1) (by decide)
  refine ⟨fun c2 => ?_, fun c2 => ?_⟩
  · skip
    first | (have t3 : (((I v0 4) >>> (v1 &&& 31)) &&& (1 : Int32)).toInt = (0) := (i_eq rfl (show (0 : Int32).toInt = 0 from rfl)).mp c2) | (have t3 : (((I v0 4) >>> (v1 &&& 31)) &&& (1 : Int32)).toInt = (0 : Int32).toInt := (i_eq rfl rfl).mp c2) | skip
    have t4 : (0 : Int32).toInt = 0 := rfl
    exact hQ (0 : Int32) 
  · skip
    first | (have t5 : ¬ ((((I v0 4) >>> (v1 &&& 31)) &&& (1 : Int32)).toInt = (0)) := (not_congr (i_eq rfl (show (0 : Int32).toInt = 0 from rfl))).mp c2) | (have t5 : ¬ ((((I v0 4) >>> (v1 &&& 31)) &&& (1 : Int32)).toInt = (0 : Int32).toInt) := (not_congr (i_eq rfl rfl)).mp c2) | skip
    have t6 : (1 : Int32).toInt = 1 := rfl
    exact hQ (1 : Int32) 
set_option maxHeartbeats 4000000 in
set_option maxRecDepth 100000 in
theorem s_X8_has {Z : jZ} {I : jI} {L : jL} (w_I : WD Z I) (v0 : Nat) (v1 : Int32) (kv0 : jk Z v0 8) {Q : Int32 → jI → jL → Prop} (hQ : ∀ (r : Int32), ((r.toInt = 1 ∧ 0 ≤ v1.toInt ∧ v1.toInt < (I v0 9).toInt ∧ v1.toInt ≤ 23) ∨ (r.toInt = 0 ∧ ¬ (0 ≤ v1.toInt ∧ v1.toInt < (I v0 9).toInt))) → Q r I L) : f_X8_has v0 v1 Z I L Q := by
  unfold f_X8_has
  have rv1 := i_rng v1
  refine ⟨fun c1 => ?_, fun c1 => ?_⟩
  · skip
    first | (have t2 : v1.toInt < (0) := (i_lt rfl (show (0 : Int32).toInt = 0 from rfl)).mp c1) | (have t2 : v1.toInt < (0 : Int32).toInt := (i_lt rfl rfl).mp c1) | skip
    have t3 : (0 : Int32).toInt = 0 := rfl
    exact hQ (0 : Int32) (by omega)
  · skip
    first | (have t4 : ¬ (v1.toInt < (0)) := (not_congr (i_lt rfl (show (0 : Int32).toInt = 0 from rfl))).mp c1) | (have t4 : ¬ (v1.toInt < (0 : Int32).toInt) := (not_congr (i_lt rfl rfl)).mp c1) | skip
    have t6 : 0 ≤ (I v0 9).toInt ∧ (I v0 9).toInt ≤ 24 := w_I.fld 8 9 kv0 (by decide)
    refine ⟨fun c7 => ?_, fun c7 => ?_⟩
    · skip
      first | (have t8 : (I v0 9).toInt ≤ v1.toInt := (i_le rfl rfl).mp c7) | (have t8 : (I v0 9).toInt ≤ v1.toInt := (i_le rfl rfl).mp c7) | skip
      have t9 : (0 : Int32).toInt = 0 := rfl
      exact hQ (0 : Int32) (by omega)
    · skip
      first | (have t10 : ¬ ((I v0 9).toInt ≤ v1.toInt) := (not_congr (i_le rfl rfl)).mp c7) | (have t10 : ¬ ((I v0 9).toInt ≤ v1.toInt) := (not_congr (i_le rfl rfl)).mp c7) | skip
      refine ⟨fun c11 => ?_, fun c11 => ?_⟩
      · skip
        first | (have t12 : (24) ≤ v1.toInt := (i_le (show (24 : Int32).toInt = 24 from rfl) rfl).mp c11) | (have t12 : (24 : Int32).toInt ≤ v1.toInt := (i_le rfl rfl).mp c11) | skip
        have t13 : (0 : Int32).toInt = 0 := rfl
        exact hQ (0 : Int32) (by omega)
      · skip
        first | (have t14 : ¬ ((24) ≤ v1.toInt) := (not_congr (i_le (show (24 : Int32).toInt = 24 from rfl) rfl)).mp c11) | (have t14 : ¬ ((24 : Int32).toInt ≤ v1.toInt) := (not_congr (i_le rfl rfl)).mp c11) | skip
        have t15 : (1 : Int32).toInt = 1 := rfl
        exact hQ (1 : Int32) (by omega)
set_option maxHeartbeats 4000000 in
set_option maxRecDepth 100000 in
theorem s_X8_inFeud {Z : jZ} {I : jI} {L : jL} (w_I : WD Z I) (v0 : Nat) (v1 : Int32) (v2 : Int32) (kv0 : jk Z v0 8) {Q : Int32 → jI → jL → Prop} (hQ : ∀ (r : Int32), Q r I L) : f_X8_inFeud v0 v1 v2 Z I L Q := by
  unfold f_X8_inFeud
  have rv1 := i_rng v1
  have rv2 := i_rng v2
  refine ⟨fun c1 => ?_, fun c1 => ?_⟩
  · skip
    first | (have t2 : v1.toInt < (0) := (i_lt rfl (show (0 : Int32).toInt = 0 from rfl)).mp c1) | (have t2 : v1.toInt < (0 : Int32).toInt := (i_lt rfl rfl).mp c1) | skip
    have t3 : (0 : Int32).toInt = 0 := rfl
    exact hQ (0 : Int32) 
  · skip
    first | (have t4 : ¬ (v1.toInt < (0)) := (not_congr (i_lt rfl (show (0 : Int32).toInt = 0 from rfl))).mp c1) | (have t4 : ¬ (v1.toInt < (0 : Int32).toInt) := (not_congr (i_lt rfl rfl)).mp c1) | skip
    refine ⟨fun c5 => ?_, fun c5 => ?_⟩
    · skip
      first | (have t6 : (8) ≤ v1.toInt := (i_le (show (8 : Int32).toInt = 8 from rfl) rfl).mp c5) | (have t6 : (8 : Int32).toInt ≤ v1.toInt := (i_le rfl rfl).mp c5) | skip
      have t7 : (0 : Int32).toInt = 0 := rfl
      exact hQ (0 : Int32) 
    · skip
      first | (have t8 : ¬ ((8) ≤ v1.toInt) := (not_congr (i_le (show (8 : Int32).toInt = 8 from rfl) rfl)).mp c5) | (have t8 : ¬ ((8 : Int32).toInt ≤ v1.toInt) := (not_congr (i_le rfl rfl)).mp c5) | skip
      intro b9 eb9
      obtain ⟨x10, ex10, kb9, lb9⟩ := sh_f w_I.1 kv0 (j := 5) (k := 14) (m := 8) rfl
      cases eb9.symm.trans ex10
      have o11 : vp_in v1 8 := vi_of rfl (by omega) (by omega)
      refine ⟨o11, ?_⟩
      have t12 : 0 ≤ (((I b9 v1.toNatClampNeg) >>> (v2 &&& 31)) &&& (1 : Int32)).toInt ∧ (((I b9 v1.toNatClampNeg) >>> (v2 &&& 31)) &&& (1 : Int32)).toInt < 2 ^ 1 := i_and (n := 1) (by decide)
      refine ⟨fun c13 => ?_, fun c13 => ?_⟩
      · skip
        first | (have t14 : (((I b9 v1.toNatClampNeg) >>> (v2 &&& 31)) &&& (1 : Int32)).toInt = (0) := (i_eq rfl (show (0 : Int32).toInt = 0 from rfl)).mp c13) | (have t14 : (((I b9 v1.toNatClampNeg) >>> (v2 &&& 31)) &&& (1 : Int32)).toInt = (0 : Int32).toInt := (i_eq rfl rfl).mp c13) | skip
        have t15 : (0 : Int32).toInt = 0 := rfl
        exact hQ (0 : Int32) 
      · skip
        first | (have t16 : ¬ ((((I b9 v1.toNatClampNeg) >>> (v2 &&& 31)) &&& (1 : Int32)).toInt = (0)) := (not_congr (i_eq rfl (show (0 : Int32).toInt = 0 from rfl))).mp c13) | (have t16 : ¬ ((((I b9 v1.toNatClampNeg) >>> (v2 &&& 31)) &&& (1 : Int32)).toInt = (0 : Int32).toInt) := (not_congr (i_eq rfl rfl)).mp c13) | skip
        have t17 : (1 : Int32).toInt = 1 := rfl
        exact hQ (1 : Int32) 
def Ws_X8_putLetters : List (Nat × Nat) := [(8, 8)]
set_option maxHeartbeats 4000000 in
set_option maxRecDepth 100000 in
theorem s_X8_putLetters {Z : jZ} {I : jI} {L : jL} (w_I : WD Z I) (v0 : Nat) (v1 : Int32) (v2 : Int32) (v3 : Int32) (v4 : Int32) (kv0 : jk Z v0 8) {Q : jI → jL → Prop} (hQ : ∀  (I' : jI) (L' : jL), WD Z I' → FR Ws_X8_putLetters Z I Z I' → Q I' L') : f_X8_putLetters v0 v1 v2 v3 v4 Z I L Q := by
  unfold f_X8_putLetters
  have q_I : FR Ws_X8_putLetters Z I Z I := FR.rf
  have rv1 := i_rng v1
  have rv2 := i_rng v2
  have rv3 := i_rng v3
  have rv4 := i_rng v4
  refine s_X8_has w_I v0 v1 kv0   (fun r1 p2 => ?_)
  have rr1 := i_rng r1
  refine ⟨fun c3 => ?_, fun c3 => ?_⟩
  · skip
    first | (have t4 : ¬ (r1.toInt = (0)) := (not_congr (i_eq rfl (show (0 : Int32).toInt = 0 from rfl))).mp c3) | (have t4 : ¬ (r1.toInt = (0 : Int32).toInt) := (not_congr (i_eq rfl rfl)).mp c3) | skip
    intro b5 eb5
    obtain ⟨x6, ex6, kb5, lb5⟩ := sh_f w_I.1 kv0 (j := 8) (k := 14) (m := 7) rfl
    cases eb5.symm.trans ex6
    intro b7 eb7
    obtain ⟨x8, ex8, kb7, lb7⟩ := sh_f w_I.1 kv0 (j := 2) (k := 14) (m := 24) rfl
    cases eb7.symm.trans ex8
    have o9 : vp_in v1 24 := vi_of rfl (by omega) (by omega)
    refine ⟨o9, ?_⟩
    have t10 : 0 ≤ (I b7 v1.toNatClampNeg).toInt ∧ (I b7 v1.toNatClampNeg).toInt ≤ 20 := w_I.arr 8 2 kv0 eb7 kb7 rfl rfl _
    intro I11 eI11
    have w_I11 : WD Z I11 := by rw [eI11]; exact WD_putA w_I 8 8 kv0 eb5 kb5 rfl rfl (by decide) trivial
    have f_I11 : FR [(8, 8)] Z I Z I11 := by rw [eI11]; exact FR_upA w_I.2.1 kv0 eb5 kb5 rfl rfl List.mem_cons_self
    have q_I11 : FR Ws_X8_putLetters Z I Z I11 := q_I.trans w_I.1 w_I.2.1 (f_I11.mono (by decide))
    intro b12 eb12
    obtain rfl : b5 = b12 := Option.some.inj (eb5.symm.trans eb12)
    intro b13 eb13
    obtain ⟨x14, ex14, kb13, lb13⟩ := sh_f w_I11.1 kv0 (j := 0) (k := 14) (m := 24) rfl
    cases eb13.symm.trans ex14
    have o15 : vp_in v1 24 := vi_of rfl (by omega) (by omega)
    refine ⟨o15, ?_⟩
    intro I16 eI16
    have w_I16 : WD Z I16 := by rw [eI16]; exact WD_putA w_I11 8 8 kv0 eb5 kb5 rfl rfl (by decide) trivial
    have f_I16 : FR [(8, 8)] Z I11 Z I16 := by rw [eI16]; exact FR_upA w_I11.2.1 kv0 eb5 kb5 rfl rfl List.mem_cons_self
    have q_I16 : FR Ws_X8_putLetters Z I Z I16 := q_I11.trans w_I.1 w_I.2.1 (f_I16.mono (by decide))
    intro b17 eb17
    obtain rfl : b5 = b17 := Option.some.inj (eb5.symm.trans eb17)
    intro b18 eb18
    obtain ⟨x19, ex19, kb18, lb18⟩ := sh_f w_I16.1 kv0 (j := 1) (k := 14) (m := 24) rfl
    cases eb18.symm.trans ex19
    have o20 : vp_in v1 24 := vi_of rfl (by omega) (by omega)
    refine ⟨o20, ?_⟩
    intro I21 eI21
    have w_I21 : WD Z I21 := by rw [eI21]; exact WD_putA w_I16 8 8 kv0 eb5 kb5 rfl rfl (by decide) trivial
    have f_I21 : FR [(8, 8)] Z I16 Z I21 := by rw [eI21]; exact FR_upA w_I16.2.1 kv0 eb5 kb5 rfl rfl List.mem_cons_self
    have q_I21 : FR Ws_X8_putLetters Z I Z I21 := q_I16.trans w_I.1 w_I.2.1 (f_I21.mono (by decide))
    intro b22 eb22
    obtain rfl : b5 = b22 := Option.some.inj (eb5.symm.trans eb22)
    intro b23 eb23
    obtain ⟨x24, ex24, kb23, lb23⟩ := sh_f w_I21.1 kv0 (j := 3) (k := 14) (m := 24) rfl
    cases eb23.symm.trans ex24
    have o25 : vp_in v1 24 := vi_of rfl (by omega) (by omega)
    refine ⟨o25, ?_⟩
    intro I26 eI26
    have w_I26 : WD Z I26 := by rw [eI26]; exact WD_putA w_I21 8 8 kv0 eb5 kb5 rfl rfl (by decide) trivial
    have f_I26 : FR [(8, 8)] Z I21 Z I26 := by rw [eI26]; exact FR_upA w_I21.2.1 kv0 eb5 kb5 rfl rfl List.mem_cons_self
    have q_I26 : FR Ws_X8_putLetters Z I Z I26 := q_I21.trans w_I.1 w_I.2.1 (f_I26.mono (by decide))
    intro b27 eb27
    obtain rfl : b5 = b27 := Option.some.inj (eb5.symm.trans eb27)
    refine s_X8_has w_I26 v0 v2 kv0   (fun r28 p29 => ?_)
    have rr28 := i_rng r28
    refine ⟨fun c30 => ?_, fun c30 => ?_⟩
    · skip
      first | (have t31 : r28.toInt = (0) := (i_eq rfl (show (0 : Int32).toInt = 0 from rfl)).mp c30) | (have t31 : r28.toInt = (0 : Int32).toInt := (i_eq rfl rfl).mp c30) | skip
      unfold f_X8_putLetters_b97
      unfold f_X8_putLetters_b98
      have o32 : vp_in (4 : Int32) (jlen Z b5) := vi_of (show (4 : Int32).toInt = 4 from rfl) (by omega) (by omega)
      refine ⟨o32, ?_⟩
      intro I33 eI33
      have t34 : (0 : Int32).toInt = 0 := rfl
      have w_I33 : WD Z I33 := by rw [eI33]; exact WD_putA w_I26 8 8 kv0 eb5 kb5 rfl rfl (by decide) trivial
      have f_I33 : FR [(8, 8)] Z I26 Z I33 := by rw [eI33]; exact FR_upA w_I26.2.1 kv0 eb5 kb5 rfl rfl List.mem_cons_self
      have q_I33 : FR Ws_X8_putLetters Z I Z I33 := q_I26.trans w_I.1 w_I.2.1 (f_I33.mono (by decide))
      intro b35 eb35
      obtain rfl : b5 = b35 := Option.some.inj (eb5.symm.trans eb35)
      intro I36 eI36
      have w_I36 : WD Z I36 := by rw [eI36]; exact WD_putA w_I33 8 8 kv0 eb5 kb5 rfl rfl (by decide) trivial
      have f_I36 : FR [(8, 8)] Z I33 Z I36 := by rw [eI36]; exact FR_upA w_I33.2.1 kv0 eb5 kb5 rfl rfl List.mem_cons_self
      have q_I36 : FR Ws_X8_putLetters Z I Z I36 := q_I33.trans w_I.1 w_I.2.1 (f_I36.mono (by decide))
      intro b37 eb37
      obtain rfl : b5 = b37 := Option.some.inj (eb5.symm.trans eb37)
      intro I38 eI38
      have w_I38 : WD Z I38 := by rw [eI38]; exact WD_putA w_I36 8 8 kv0 eb5 kb5 rfl rfl (by decide) trivial
      have f_I38 : FR [(8, 8)] Z I36 Z I38 := by rw [eI38]; exact FR_upA w_I36.2.1 kv0 eb5 kb5 rfl rfl List.mem_cons_self
      have q_I38 : FR Ws_X8_putLetters Z I Z I38 := q_I36.trans w_I.1 w_I.2.1 (f_I38.mono (by decide))
      exact hQ  I38 L w_I38 q_I38 
    · skip
      first | (have t39 : ¬ (r28.toInt = (0)) := (not_congr (i_eq rfl (show (0 : Int32).toInt = 0 from rfl))).mp c30) | (have t39 : ¬ (r28.toInt = (0 : Int32).toInt) := (not_congr (i_eq rfl rfl)).mp c30) | skip
      intro b40 eb40
      obtain ⟨x41, ex41, kb40⟩ := sh_o w_I26.1 kv0 (j := 4) (k := 4) rfl
      cases eb40.symm.trans ex41
      refine s_X4_mainOf w_I26 b40 v1 kb40   (fun r42 p43 => ?_)
      have rr42 := i_rng r42
      intro b44 eb44
      obtain rfl : b40 = b44 := Option.some.inj (eb40.symm.trans eb44)
      refine s_X4_mainOf w_I26 b40 v2 kb40   (fun r45 p46 => ?_)
      have rr45 := i_rng r45
      refine s_X8_inFeud w_I26 v0 r42 r45 kv0   (fun r47  => ?_)
      have rr47 := i_rng r47
      refine ⟨fun c48 => ?_, fun c48 => ?_⟩
      · skip
        first | (have t49 : r47.toInt = (0) := (i_eq rfl (show (0 : Int32).toInt = 0 from rfl)).mp c48) | (have t49 : r47.toInt = (0 : Int32).toInt := (i_eq rfl rfl).mp c48) | skip
        unfold f_X8_putLetters_b97
        unfold f_X8_putLetters_b98
        have o50 : vp_in (4 : Int32) (jlen Z b5) := vi_of (show (4 : Int32).toInt = 4 from rfl) (by omega) (by omega)
        refine ⟨o50, ?_⟩
        intro I51 eI51
        have t52 : (0 : Int32).toInt = 0 := rfl
        have w_I51 : WD Z I51 := by rw [eI51]; exact WD_putA w_I26 8 8 kv0 eb5 kb5 rfl rfl (by decide) trivial
        have f_I51 : FR [(8, 8)] Z I26 Z I51 := by rw [eI51]; exact FR_upA w_I26.2.1 kv0 eb5 kb5 rfl rfl List.mem_cons_self
        have q_I51 : FR Ws_X8_putLetters Z I Z I51 := q_I26.trans w_I.1 w_I.2.1 (f_I51.mono (by decide))
        intro b53 eb53
        obtain rfl : b5 = b53 := Option.some.inj (eb5.symm.trans eb53)
        intro I54 eI54
        have w_I54 : WD Z I54 := by rw [eI54]; exact WD_putA w_I51 8 8 kv0 eb5 kb5 rfl rfl (by decide) trivial
        have f_I54 : FR [(8, 8)] Z I51 Z I54 := by rw [eI54]; exact FR_upA w_I51.2.1 kv0 eb5 kb5 rfl rfl List.mem_cons_self
        have q_I54 : FR Ws_X8_putLetters Z I Z I54 := q_I51.trans w_I.1 w_I.2.1 (f_I54.mono (by decide))
        intro b55 eb55
        obtain rfl : b5 = b55 := Option.some.inj (eb5.symm.trans eb55)
        intro I56 eI56
        have w_I56 : WD Z I56 := by rw [eI56]; exact WD_putA w_I54 8 8 kv0 eb5 kb5 rfl rfl (by decide) trivial
        have f_I56 : FR [(8, 8)] Z I54 Z I56 := by rw [eI56]; exact FR_upA w_I54.2.1 kv0 eb5 kb5 rfl rfl List.mem_cons_self
        have q_I56 : FR Ws_X8_putLetters Z I Z I56 := q_I54.trans w_I.1 w_I.2.1 (f_I56.mono (by decide))
        exact hQ  I56 L w_I56 q_I56 
      · skip
        first | (have t57 : ¬ (r47.toInt = (0)) := (not_congr (i_eq rfl (show (0 : Int32).toInt = 0 from rfl))).mp c48) | (have t57 : ¬ (r47.toInt = (0 : Int32).toInt) := (not_congr (i_eq rfl rfl)).mp c48) | skip
        unfold f_X8_putLetters_b98
        have o58 : vp_in (4 : Int32) (jlen Z b5) := vi_of (show (4 : Int32).toInt = 4 from rfl) (by omega) (by omega)
        refine ⟨o58, ?_⟩
        intro I59 eI59
        have t60 : (1 : Int32).toInt = 1 := rfl
        have w_I59 : WD Z I59 := by rw [eI59]; exact WD_putA w_I26 8 8 kv0 eb5 kb5 rfl rfl (by decide) trivial
        have f_I59 : FR [(8, 8)] Z I26 Z I59 := by rw [eI59]; exact FR_upA w_I26.2.1 kv0 eb5 kb5 rfl rfl List.mem_cons_self
        have q_I59 : FR Ws_X8_putLetters Z I Z I59 := q_I26.trans w_I.1 w_I.2.1 (f_I59.mono (by decide))
        intro b61 eb61
        obtain rfl : b5 = b61 := Option.some.inj (eb5.symm.trans eb61)
        intro I62 eI62
        have w_I62 : WD Z I62 := by rw [eI62]; exact WD_putA w_I59 8 8 kv0 eb5 kb5 rfl rfl (by decide) trivial
        have f_I62 : FR [(8, 8)] Z I59 Z I62 := by rw [eI62]; exact FR_upA w_I59.2.1 kv0 eb5 kb5 rfl rfl List.mem_cons_self
        have q_I62 : FR Ws_X8_putLetters Z I Z I62 := q_I59.trans w_I.1 w_I.2.1 (f_I62.mono (by decide))
        intro b63 eb63
        obtain rfl : b5 = b63 := Option.some.inj (eb5.symm.trans eb63)
        intro I64 eI64
        have w_I64 : WD Z I64 := by rw [eI64]; exact WD_putA w_I62 8 8 kv0 eb5 kb5 rfl rfl (by decide) trivial
        have f_I64 : FR [(8, 8)] Z I62 Z I64 := by rw [eI64]; exact FR_upA w_I62.2.1 kv0 eb5 kb5 rfl rfl List.mem_cons_self
        have q_I64 : FR Ws_X8_putLetters Z I Z I64 := q_I62.trans w_I.1 w_I.2.1 (f_I64.mono (by decide))
        exact hQ  I64 L w_I64 q_I64 
  · skip
    first | (have t65 : r1.toInt = (0) := (i_eq rfl (show (0 : Int32).toInt = 0 from rfl)).mp c3) | (have t65 : r1.toInt = (0 : Int32).toInt := (i_eq rfl rfl).mp c3) | skip
    exact hQ  I L w_I q_I 
def Ws_X8_priceOf : List (Nat × Nat) := [(3, 2), (8, 8)]
set_option maxHeartbeats 4000000 in
set_option maxRecDepth 100000 in
theorem s_X8_priceOf {Z : jZ} {I : jI} {L : jL} (w_I : WD Z I) (v0 : Nat) (v1 : Int32) (v2 : Int32) (v3 : Int32) (v4 : Int32) (v5 : Int32) (kv0 : jk Z v0 8) {Q : Int32 → jI → jL → Prop} (hQ : ∀ (r : Int32) (I' : jI) (L' : jL), WD Z I' → FR Ws_X8_priceOf Z I Z I' → (0 ≤ r.toInt ∧ r.toInt ≤ 99) → Q r I' L') : f_X8_priceOf v0 v1 v2 v3 v4 v5 Z I L Q := by
  unfold f_X8_priceOf
  have q_I : FR Ws_X8_priceOf Z I Z I := FR.rf
  have rv1 := i_rng v1
  have rv2 := i_rng v2
  have rv3 := i_rng v3
  have rv4 := i_rng v4
  have rv5 := i_rng v5
  refine ⟨fun c1 => ?_, fun c1 => ?_⟩
  · skip
    first | (have t2 : ¬ (v1.toInt = (0)) := (not_congr (i_eq rfl (show (0 : Int32).toInt = 0 from rfl))).mp c1) | (have t2 : ¬ (v1.toInt = (0 : Int32).toInt) := (not_congr (i_eq rfl rfl)).mp c1) | skip
    intro b3 eb3
    obtain ⟨x4, ex4, kb3⟩ := sh_o w_I.1 kv0 (j := 7) (k := 3) rfl
    cases eb3.symm.trans ex4
    unfold f_X8_priceOf_b15
    refine s_X8_has w_I v0 v2 kv0   (fun r5 p6 => ?_)
    have rr5 := i_rng r5
    refine ⟨fun c7 => ?_, fun c7 => ?_⟩
    · skip
      first | (have t8 : ¬ (r5.toInt = (0)) := (not_congr (i_eq rfl (show (0 : Int32).toInt = 0 from rfl))).mp c7) | (have t8 : ¬ (r5.toInt = (0 : Int32).toInt) := (not_congr (i_eq rfl rfl)).mp c7) | skip
      refine s_X3_isTold w_I b3 kb3   (fun r9  => ?_)
      have rr9 := i_rng r9
      refine ⟨fun c10 => ?_, fun c10 => ?_⟩
      · skip
        first | (have t11 : ¬ (r9.toInt = (0)) := (not_congr (i_eq rfl (show (0 : Int32).toInt = 0 from rfl))).mp c10) | (have t11 : ¬ (r9.toInt = (0 : Int32).toInt) := (not_congr (i_eq rfl rfl)).mp c10) | skip
        refine s_X8_putLetters w_I v0 v2 v3 v4 v5 kv0   (fun  I12 L13 w_I12 f_I12  => ?_)
        have q_I12 : FR Ws_X8_priceOf Z I Z I12 := q_I.trans w_I.1 w_I.2.1 (f_I12.mono (by decide))
        intro b14 eb14
        obtain ⟨x15, ex15, kb14, lb14⟩ := sh_f w_I12.1 kv0 (j := 8) (k := 14) (m := 7) rfl
        cases eb14.symm.trans ex15
        refine s_X3_priceFor w_I12 b3 b14 kb3 kb14 v0 8 8 kv0 eb14 (by omega) (fun r16 I18 L19 w_I18 f_I18 p17 => ?_)
        have q_I18 : FR Ws_X8_priceOf Z I Z I18 := q_I12.trans w_I.1 w_I.2.1 (f_I18.mono (by decide))
        have rr16 := i_rng r16
        exact hQ r16 I18 L19 w_I18 q_I18 (by omega)
      · skip
        first | (have t20 : r9.toInt = (0) := (i_eq rfl (show (0 : Int32).toInt = 0 from rfl)).mp c10) | (have t20 : r9.toInt = (0 : Int32).toInt := (i_eq rfl rfl).mp c10) | skip
        refine ⟨fun c21 => ?_, fun c21 => ?_⟩
        · skip
          first | (have t22 : ¬ (v1.toInt = (0)) := (not_congr (i_eq rfl (show (0 : Int32).toInt = 0 from rfl))).mp c21) | (have t22 : ¬ (v1.toInt = (0 : Int32).toInt) := (not_congr (i_eq rfl rfl)).mp c21) | skip
          have t23 : (0 : Int32).toInt = 0 := rfl
          exact hQ (0 : Int32) I L w_I q_I (by omega)
        · skip
          first | (have t24 : v1.toInt = (0) := (i_eq rfl (show (0 : Int32).toInt = 0 from rfl)).mp c21) | (have t24 : v1.toInt = (0 : Int32).toInt := (i_eq rfl rfl).mp c21) | skip
          intro b25 eb25
          obtain ⟨x26, ex26, kb25, lb25⟩ := sh_f w_I.1 kv0 (j := 3) (k := 14) (m := 24) rfl
          cases eb25.symm.trans ex26
          have o27 : vp_in v2 24 := vi_of rfl (by omega) (by omega)
          refine ⟨o27, ?_⟩
          refine ⟨fun c28 => ?_, fun c28 => ?_⟩
          · skip
            first | (have t29 : ¬ ((I b25 v2.toNatClampNeg).toInt = (0)) := (not_congr (i_eq rfl (show (0 : Int32).toInt = 0 from rfl))).mp c28) | (have t29 : ¬ ((I b25 v2.toNatClampNeg).toInt = (0 : Int32).toInt) := (not_congr (i_eq rfl rfl)).mp c28) | skip
            have t30 : (0 : Int32).toInt = 0 := rfl
            exact hQ (0 : Int32) I L w_I q_I (by omega)
          · skip
            first | (have t31 : (I b25 v2.toNatClampNeg).toInt = (0) := (i_eq rfl (show (0 : Int32).toInt = 0 from rfl)).mp c28) | (have t31 : (I b25 v2.toNatClampNeg).toInt = (0 : Int32).toInt := (i_eq rfl rfl).mp c28) | skip
            intro b32 eb32
            obtain ⟨x33, ex33, kb32, lb32⟩ := sh_f w_I.1 kv0 (j := 2) (k := 14) (m := 24) rfl
            cases eb32.symm.trans ex33
            have o34 : vp_in v2 24 := vi_of rfl (by omega) (by omega)
            refine ⟨o34, ?_⟩
            have t35 : 0 ≤ (I b32 v2.toNatClampNeg).toInt ∧ (I b32 v2.toNatClampNeg).toInt ≤ 20 := w_I.arr 8 2 kv0 eb32 kb32 rfl rfl _
            exact hQ (I b32 v2.toNatClampNeg) I L w_I q_I (by omega)
    · skip
      first | (have t36 : r5.toInt = (0) := (i_eq rfl (show (0 : Int32).toInt = 0 from rfl)).mp c7) | (have t36 : r5.toInt = (0 : Int32).toInt := (i_eq rfl rfl).mp c7) | skip
      have t37 : (0 : Int32).toInt = 0 := rfl
      exact hQ (0 : Int32) I L w_I q_I (by omega)
  · skip
    first | (have t38 : v1.toInt = (0) := (i_eq rfl (show (0 : Int32).toInt = 0 from rfl)).mp c1) | (have t38 : v1.toInt = (0 : Int32).toInt := (i_eq rfl rfl).mp c1) | skip
    intro b39 eb39
    obtain ⟨x40, ex40, kb39⟩ := sh_o w_I.1 kv0 (j := 6) (k := 3) rfl
    cases eb39.symm.trans ex40
    unfold f_X8_priceOf_b15
    refine s_X8_has w_I v0 v2 kv0   (fun r41 p42 => ?_)
    have rr41 := i_rng r41
    refine ⟨fun c43 => ?_, fun c43 => ?_⟩
    · skip
      first | (have t44 : ¬ (r41.toInt = (0)) := (not_congr (i_eq rfl (show (0 : Int32).toInt = 0 from rfl))).mp c43) | (have t44 : ¬ (r41.toInt = (0 : Int32).toInt) := (not_congr (i_eq rfl rfl)).mp c43) | skip
      refine s_X3_isTold w_I b39 kb39   (fun r45  => ?_)
      have rr45 := i_rng r45
      refine ⟨fun c46 => ?_, fun c46 => ?_⟩
      · skip
        first | (have t47 : ¬ (r45.toInt = (0)) := (not_congr (i_eq rfl (show (0 : Int32).toInt = 0 from rfl))).mp c46) | (have t47 : ¬ (r45.toInt = (0 : Int32).toInt) := (not_congr (i_eq rfl rfl)).mp c46) | skip
        refine s_X8_putLetters w_I v0 v2 v3 v4 v5 kv0   (fun  I48 L49 w_I48 f_I48  => ?_)
        have q_I48 : FR Ws_X8_priceOf Z I Z I48 := q_I.trans w_I.1 w_I.2.1 (f_I48.mono (by decide))
        intro b50 eb50
        obtain ⟨x51, ex51, kb50, lb50⟩ := sh_f w_I48.1 kv0 (j := 8) (k := 14) (m := 7) rfl
        cases eb50.symm.trans ex51
        refine s_X3_priceFor w_I48 b39 b50 kb39 kb50 v0 8 8 kv0 eb50 (by omega) (fun r52 I54 L55 w_I54 f_I54 p53 => ?_)
        have q_I54 : FR Ws_X8_priceOf Z I Z I54 := q_I48.trans w_I.1 w_I.2.1 (f_I54.mono (by decide))
        have rr52 := i_rng r52
        exact hQ r52 I54 L55 w_I54 q_I54 (by omega)
      · skip
        first | (have t56 : r45.toInt = (0) := (i_eq rfl (show (0 : Int32).toInt = 0 from rfl)).mp c46) | (have t56 : r45.toInt = (0 : Int32).toInt := (i_eq rfl rfl).mp c46) | skip
        refine ⟨fun c57 => ?_, fun c57 => ?_⟩
        · skip
          first | (have t58 : ¬ (v1.toInt = (0)) := (not_congr (i_eq rfl (show (0 : Int32).toInt = 0 from rfl))).mp c57) | (have t58 : ¬ (v1.toInt = (0 : Int32).toInt) := (not_congr (i_eq rfl rfl)).mp c57) | skip
          have t59 : (0 : Int32).toInt = 0 := rfl
          exact hQ (0 : Int32) I L w_I q_I (by omega)
        · skip
          first | (have t60 : v1.toInt = (0) := (i_eq rfl (show (0 : Int32).toInt = 0 from rfl)).mp c57) | (have t60 : v1.toInt = (0 : Int32).toInt := (i_eq rfl rfl).mp c57) | skip
          intro b61 eb61
          obtain ⟨x62, ex62, kb61, lb61⟩ := sh_f w_I.1 kv0 (j := 3) (k := 14) (m := 24) rfl
          cases eb61.symm.trans ex62
          have o63 : vp_in v2 24 := vi_of rfl (by omega) (by omega)
          refine ⟨o63, ?_⟩
          refine ⟨fun c64 => ?_, fun c64 => ?_⟩
          · skip
            first | (have t65 : ¬ ((I b61 v2.toNatClampNeg).toInt = (0)) := (not_congr (i_eq rfl (show (0 : Int32).toInt = 0 from rfl))).mp c64) | (have t65 : ¬ ((I b61 v2.toNatClampNeg).toInt = (0 : Int32).toInt) := (not_congr (i_eq rfl rfl)).mp c64) | skip
            have t66 : (0 : Int32).toInt = 0 := rfl
            exact hQ (0 : Int32) I L w_I q_I (by omega)
          · skip
            first | (have t67 : (I b61 v2.toNatClampNeg).toInt = (0) := (i_eq rfl (show (0 : Int32).toInt = 0 from rfl)).mp c64) | (have t67 : (I b61 v2.toNatClampNeg).toInt = (0 : Int32).toInt := (i_eq rfl rfl).mp c64) | skip
            intro b68 eb68
            obtain ⟨x69, ex69, kb68, lb68⟩ := sh_f w_I.1 kv0 (j := 2) (k := 14) (m := 24) rfl
            cases eb68.symm.trans ex69
            have o70 : vp_in v2 24 := vi_of rfl (by omega) (by omega)
            refine ⟨o70, ?_⟩
            have t71 : 0 ≤ (I b68 v2.toNatClampNeg).toInt ∧ (I b68 v2.toNatClampNeg).toInt ≤ 20 := w_I.arr 8 2 kv0 eb68 kb68 rfl rfl _
            exact hQ (I b68 v2.toNatClampNeg) I L w_I q_I (by omega)
    · skip
      first | (have t72 : r41.toInt = (0) := (i_eq rfl (show (0 : Int32).toInt = 0 from rfl)).mp c43) | (have t72 : r41.toInt = (0 : Int32).toInt := (i_eq rfl rfl).mp c43) | skip
      have t73 : (0 : Int32).toInt = 0 := rfl
      exact hQ (0 : Int32) I L w_I q_I (by omega)
def Ws_X8_costOfMove : List (Nat × Nat) := [(3, 2), (8, 8)]
set_option maxHeartbeats 4000000 in
set_option maxRecDepth 100000 in
theorem l_X8_costOfMove_L24 {Z : jZ} {I0 : jI} {Q : Int32 → jI → jL → Prop} (w0 : WD Z I0) (v0 : Nat) (v1 : Int32) (v2 : Int32) (v3 : Int32) (kv0 : jk Z v0 8) (p0 : -1 ≤ v1.toInt ∧ v1.toInt < v2.toInt ∧ v2.toInt ≤ 23 ∧ v2.toInt - v1.toInt ≤ 3) (v4 : Int32) (hQ : ∀ (r : Int32) (I' : jI) (L' : jL), WD Z I' → FR Ws_X8_costOfMove Z I0 Z I' → (0 ≤ r.toInt ∧ r.toInt ≤ 297) → Q r I' L') : ∀ (n : Nat) (v5 : Int32) (v6 : Int32) (I : jI) (L : jL), WD Z I → FR Ws_X8_costOfMove Z I0 Z I →   (v1.toInt < v6.toInt ∧ v6.toInt ≤ v2.toInt ∧ 0 ≤ v5.toInt ∧ v5.toInt ≤ 99 * (v6.toInt - v1.toInt)) → v2.toInt - v6.toInt < (n : Int) → f_X8_costOfMove_L24  Z Q n v0 v1 v2 v3 v4 v5 v6 I L := by
  intro n
  induction n with
  | zero =>
    intro v5 v6 I L w_I q_I   li  me
    exfalso
    omega
  | succ n ih =>
    intro v5 v6 I L w_I q_I   li  me
    unfold f_X8_costOfMove_L24
    have rv5 := i_rng v5
    have rv6 := i_rng v6
    have rv4 := i_rng v4
    have rv1 := i_rng v1
    have rv2 := i_rng v2
    have rv3 := i_rng v3
    refine ⟨fun c1 => ?_, fun c1 => ?_⟩
    · skip
      first | (have t2 : v2.toInt ≤ v6.toInt := (i_le rfl rfl).mp c1) | (have t2 : v2.toInt ≤ v6.toInt := (i_le rfl rfl).mp c1) | skip
      exact hQ v5 I L w_I q_I (by omega)
    · skip
      first | (have t3 : ¬ (v2.toInt ≤ v6.toInt) := (not_congr (i_le rfl rfl)).mp c1) | (have t3 : ¬ (v2.toInt ≤ v6.toInt) := (not_congr (i_le rfl rfl)).mp c1) | skip
      have t4 : (1 : Int32).toInt = 1 := rfl
      refine s_X8_priceOf w_I v0 (1 : Int32) v6 v1 v4 v3 kv0   (fun r5 I7 L8 w_I7 f_I7 p6 => ?_)
      have q_I7 : FR Ws_X8_costOfMove Z I0 Z I7 := q_I.trans w0.1 w0.2.1 (f_I7.mono (by decide))
      have rr5 := i_rng r5
      intro x9 ex9
      have rx9 := i_rng x9
      first | (have tx9 : x9.toInt = (v5.toInt + r5.toInt) := by (rw [ex9]; exact (i_add rfl rfl (by omega) (by omega)))) | (have tx9 : x9.toInt = (v5 + r5).toInt := by rw [ex9])
      intro x10 ex10
      have rx10 := i_rng x10
      first | (have tx10 : x10.toInt = v6.toInt + (1) := by (rw [ex10]; exact (i_add rfl (show (1 : Int32).toInt = 1 from rfl) (by omega) (by omega)))) | skip
      exact ih x9 x10 I7 L8 w_I7 q_I7   (by omega)  (by omega)
set_option maxHeartbeats 4000000 in
set_option maxRecDepth 100000 in
theorem s_X8_costOfMove {Z : jZ} {I : jI} {L : jL} (w_I : WD Z I) (v0 : Nat) (v1 : Int32) (v2 : Int32) (v3 : Int32) (kv0 : jk Z v0 8) (p0 : -1 ≤ v1.toInt ∧ v1.toInt < v2.toInt ∧ v2.toInt ≤ 23 ∧ v2.toInt - v1.toInt ≤ 3) {Q : Int32 → jI → jL → Prop} (hQ : ∀ (r : Int32) (I' : jI) (L' : jL), WD Z I' → FR Ws_X8_costOfMove Z I Z I' → (0 ≤ r.toInt ∧ r.toInt ≤ 297) → Q r I' L') : f_X8_costOfMove v0 v1 v2 v3 Z I L Q := by
  unfold f_X8_costOfMove
  have q_I : FR Ws_X8_costOfMove Z I Z I := FR.rf
  have rv1 := i_rng v1
  have rv2 := i_rng v2
  have rv3 := i_rng v3
  intro x11 ex11
  have rx11 := i_rng x11
  first | (have tx11 : x11.toInt = ((v2.toInt - v1.toInt) - (1)) := by (rw [ex11]; exact (i_sub (i_sub rfl rfl (by omega) (by omega)) (show (1 : Int32).toInt = 1 from rfl) (by omega) (by omega)))) | (have tx11 : x11.toInt = ((v2 - v1) - (1 : Int32)).toInt := by rw [ex11])
  have t12 : (0 : Int32).toInt = 0 := rfl
  refine s_X8_priceOf w_I v0 (0 : Int32) v2 v1 x11 v3 kv0   (fun r13 I15 L16 w_I15 f_I15 p14 => ?_)
  have q_I15 : FR Ws_X8_costOfMove Z I Z I15 := q_I.trans w_I.1 w_I.2.1 (f_I15.mono (by decide))
  have rr13 := i_rng r13
  intro x17 ex17
  have rx17 := i_rng x17
  first | (have tx17 : x17.toInt = (v1.toInt + (1)) := by (rw [ex17]; exact (i_add rfl (show (1 : Int32).toInt = 1 from rfl) (by omega) (by omega)))) | (have tx17 : x17.toInt = (v1 + (1 : Int32)).toInt := by rw [ex17])
  exact ⟨(v2.toInt - x17.toInt).toNat + 1, l_X8_costOfMove_L24 w_I v0 v1 v2 v3 kv0 p0 x11  hQ   _ r13 x17 I15 L16 w_I15 q_I15   (by omega)  (by omega)⟩
set_option maxHeartbeats 4000000 in
set_option maxRecDepth 100000 in
theorem l_X8_effortOfMove_L8 {Z : jZ} {I : jI} {L : jL} {Q : Int32 → jI → jL → Prop} (w_I : WD Z I) (v0 : Nat) (v1 : Int32) (v2 : Int32) (v3 : Int32) (kv0 : jk Z v0 8) (p0 : -1 ≤ v1.toInt ∧ v1.toInt < v2.toInt ∧ v2.toInt ≤ 23 ∧ v2.toInt - v1.toInt ≤ 3) (hQ : ∀ (r : Int32), Q r I L) : ∀ (n : Nat) (v4 : Int32) (v5 : Int32) ,   (v1.toInt < v5.toInt ∧ v5.toInt ≤ v2.toInt + 1) → v2.toInt + 1 - v5.toInt < (n : Int) → f_X8_effortOfMove_L8  Z Q n v0 v1 v2 v3 v4 v5 I L := by
  intro n
  induction n with
  | zero =>
    intro v4 v5   li  me
    exfalso
    omega
  | succ n ih =>
    intro v4 v5   li  me
    unfold f_X8_effortOfMove_L8
    have rv4 := i_rng v4
    have rv5 := i_rng v5
    have rv1 := i_rng v1
    have rv2 := i_rng v2
    have rv3 := i_rng v3
    refine ⟨fun c1 => ?_, fun c1 => ?_⟩
    · skip
      first | (have t2 : v2.toInt < v5.toInt := (i_lt rfl rfl).mp c1) | (have t2 : v2.toInt < v5.toInt := (i_lt rfl rfl).mp c1) | skip
      refine s_X8_has w_I v0 v2 kv0   (fun r3 p4 => ?_)
      have rr3 := i_rng r3
      refine ⟨fun c5 => ?_, fun c5 => ?_⟩
      · skip
        first | (have t6 : r3.toInt = (0) := (i_eq rfl (show (0 : Int32).toInt = 0 from rfl)).mp c5) | (have t6 : r3.toInt = (0 : Int32).toInt := (i_eq rfl rfl).mp c5) | skip
        unfold f_X8_effortOfMove_b66
        try (have t7 : ((((v4 * ((10 : Int32) + v3)) / (10 : Int32)) + (0 : Int32)) + ((5 : Int32) * ((v2 - v1) - (1 : Int32)))).toInt = ((((v4 * ((10 : Int32) + v3)).toInt / (10)) + (0)) + ((5) * ((v2.toInt - v1.toInt) - (1)))) := (i_add (i_add (i_div rfl (show (10 : Int32).toInt = 10 from rfl) (by omega) (by omega)) (show (0 : Int32).toInt = 0 from rfl) (by omega) (by omega)) (i_mul (show (5 : Int32).toInt = 5 from rfl) (i_sub (i_sub rfl rfl (by omega) (by omega)) (show (1 : Int32).toInt = 1 from rfl) (by omega) (by omega)) (by omega) (by omega)) (by omega) (by omega)))
        exact hQ ((((v4 * ((10 : Int32) + v3)) / (10 : Int32)) + (0 : Int32)) + ((5 : Int32) * ((v2 - v1) - (1 : Int32)))) 
      · skip
        first | (have t8 : ¬ (r3.toInt = (0)) := (not_congr (i_eq rfl (show (0 : Int32).toInt = 0 from rfl))).mp c5) | (have t8 : ¬ (r3.toInt = (0 : Int32).toInt) := (not_congr (i_eq rfl rfl)).mp c5) | skip
        intro b9 eb9
        obtain ⟨x10, ex10, kb9, lb9⟩ := sh_f w_I.1 kv0 (j := 1) (k := 14) (m := 24) rfl
        cases eb9.symm.trans ex10
        have o11 : vp_in v2 24 := vi_of rfl (by omega) (by omega)
        refine ⟨o11, ?_⟩
        unfold f_X8_effortOfMove_b66
        try (have t12 : ((((v4 * ((10 : Int32) + v3)) / (10 : Int32)) + ((9 : Int32) - (I b9 v2.toNatClampNeg))) + ((5 : Int32) * ((v2 - v1) - (1 : Int32)))).toInt = ((((v4 * ((10 : Int32) + v3)).toInt / (10)) + ((9) - (I b9 v2.toNatClampNeg).toInt)) + ((5) * ((v2.toInt - v1.toInt) - (1)))) := (i_add (i_add (i_div rfl (show (10 : Int32).toInt = 10 from rfl) (by omega) (by omega)) (i_sub (show (9 : Int32).toInt = 9 from rfl) rfl (by omega) (by omega)) (by omega) (by omega)) (i_mul (show (5 : Int32).toInt = 5 from rfl) (i_sub (i_sub rfl rfl (by omega) (by omega)) (show (1 : Int32).toInt = 1 from rfl) (by omega) (by omega)) (by omega) (by omega)) (by omega) (by omega)))
        exact hQ ((((v4 * ((10 : Int32) + v3)) / (10 : Int32)) + ((9 : Int32) - (I b9 v2.toNatClampNeg))) + ((5 : Int32) * ((v2 - v1) - (1 : Int32)))) 
    · skip
      first | (have t13 : ¬ (v2.toInt < v5.toInt) := (not_congr (i_lt rfl rfl)).mp c1) | (have t13 : ¬ (v2.toInt < v5.toInt) := (not_congr (i_lt rfl rfl)).mp c1) | skip
      refine s_X8_has w_I v0 v5 kv0   (fun r14 p15 => ?_)
      have rr14 := i_rng r14
      refine ⟨fun c16 => ?_, fun c16 => ?_⟩
      · skip
        first | (have t17 : r14.toInt = (0) := (i_eq rfl (show (0 : Int32).toInt = 0 from rfl)).mp c16) | (have t17 : r14.toInt = (0 : Int32).toInt := (i_eq rfl rfl).mp c16) | skip
        unfold f_X8_effortOfMove_b36
        intro x18 ex18
        have rx18 := i_rng x18
        first | (have tx18 : x18.toInt = (v4.toInt + (0)) := by (rw [ex18]; exact (i_add rfl (show (0 : Int32).toInt = 0 from rfl) (by omega) (by omega)))) | (have tx18 : x18.toInt = (v4 + (0 : Int32)).toInt := by rw [ex18])
        intro x19 ex19
        have rx19 := i_rng x19
        first | (have tx19 : x19.toInt = v5.toInt + (1) := by (rw [ex19]; exact (i_add rfl (show (1 : Int32).toInt = 1 from rfl) (by omega) (by omega)))) | skip
        exact ih x18 x19   (by omega)  (by omega)
      · skip
        first | (have t20 : ¬ (r14.toInt = (0)) := (not_congr (i_eq rfl (show (0 : Int32).toInt = 0 from rfl))).mp c16) | (have t20 : ¬ (r14.toInt = (0 : Int32).toInt) := (not_congr (i_eq rfl rfl)).mp c16) | skip
        intro b21 eb21
        obtain ⟨x22, ex22, kb21, lb21⟩ := sh_f w_I.1 kv0 (j := 0) (k := 14) (m := 24) rfl
        cases eb21.symm.trans ex22
        have o23 : vp_in v5 24 := vi_of rfl (by omega) (by omega)
        refine ⟨o23, ?_⟩
        unfold f_X8_effortOfMove_b36
        intro x24 ex24
        have rx24 := i_rng x24
        first | (have tx24 : x24.toInt = (v4.toInt + (I b21 v5.toNatClampNeg).toInt) := by (rw [ex24]; exact (i_add rfl rfl (by omega) (by omega)))) | (have tx24 : x24.toInt = (v4 + (I b21 v5.toNatClampNeg)).toInt := by rw [ex24])
        intro x25 ex25
        have rx25 := i_rng x25
        first | (have tx25 : x25.toInt = v5.toInt + (1) := by (rw [ex25]; exact (i_add rfl (show (1 : Int32).toInt = 1 from rfl) (by omega) (by omega)))) | skip
        exact ih x24 x25   (by omega)  (by omega)
set_option maxHeartbeats 4000000 in
set_option maxRecDepth 100000 in
theorem s_X8_effortOfMove {Z : jZ} {I : jI} {L : jL} (w_I : WD Z I) (v0 : Nat) (v1 : Int32) (v2 : Int32) (v3 : Int32) (kv0 : jk Z v0 8) (p0 : -1 ≤ v1.toInt ∧ v1.toInt < v2.toInt ∧ v2.toInt ≤ 23 ∧ v2.toInt - v1.toInt ≤ 3) {Q : Int32 → jI → jL → Prop} (hQ : ∀ (r : Int32), Q r I L) : f_X8_effortOfMove v0 v1 v2 v3 Z I L Q := by
  unfold f_X8_effortOfMove
  have rv1 := i_rng v1
  have rv2 := i_rng v2
  have rv3 := i_rng v3
  intro x26 ex26
  have rx26 := i_rng x26
  first | (have tx26 : x26.toInt = (v1.toInt + (1)) := by (rw [ex26]; exact (i_add rfl (show (1 : Int32).toInt = 1 from rfl) (by omega) (by omega)))) | (have tx26 : x26.toInt = (v1 + (1 : Int32)).toInt := by rw [ex26])
  have t27 : (0 : Int32).toInt = 0 := rfl
  exact ⟨(v2.toInt + 1 - x26.toInt).toNat + 1, l_X8_effortOfMove_L8 w_I v0 v1 v2 v3 kv0 p0   hQ   _ (0 : Int32) x26   (by omega)  (by omega)⟩
set_option maxHeartbeats 4000000 in
set_option maxRecDepth 100000 in
theorem l_X8_pricesInto_L79 {Z : jZ} {I0 : jI} {Q : jI → jL → Prop} (w0 : WD Z I0) (v0 : Nat) (v1 : Nat) (v2 : Int32) (v3 : Int32) (v4 : Int32) (v5 : Int32) (v6 : Int32) (kv0 : jk Z v0 8) (kv1 : jk Z v1 14) (o1_ c1_ j1_ : Nat) (ho1 : jk Z o1_ c1_) (hr1 : jr Z o1_ j1_ = some v1) (h71 : c1_ ≠ 7) (hs1 : jsr c1_ j1_ = false) (p0 : jlen Z v1 = 21) (p1 : ∀ i v, okA c1_ j1_ i v) (v7 : Nat) (v8 : Int32) (v9 : Int32) (kv7 : jk Z v7 3) (hQ : ∀  (I' : jI) (L' : jL), WD Z I' → FR ((c1_, j1_) :: [(3, 2), (8, 8)]) Z I0 Z I' → Q I' L') : ∀ (n : Nat) (v10 : Int32) (I : jI) (L : jL), WD Z I → FR ((c1_, j1_) :: [(3, 2), (8, 8)]) Z I0 Z I →   (0 ≤ v10.toInt ∧ v10.toInt ≤ 21) → 21 - v10.toInt < (n : Int) → f_X8_pricesInto_L79  Z Q n v0 v1 v7 v8 v9 v10 I L := by
  intro n
  induction n with
  | zero =>
    intro v10 I L w_I q_I   li  me
    exfalso
    omega
  | succ n ih =>
    intro v10 I L w_I q_I   li  me
    unfold f_X8_pricesInto_L79
    have rv10 := i_rng v10
    have rv8 := i_rng v8
    have rv9 := i_rng v9
    have rv2 := i_rng v2
    have rv3 := i_rng v3
    have rv4 := i_rng v4
    have rv5 := i_rng v5
    have rv6 := i_rng v6
    refine ⟨fun c1 => ?_, fun c1 => ?_⟩
    · skip
      first | (have t2 : ((jlen Z v1 : Nat) : Int) ≤ v10.toInt := (i_le (i_nI (by omega)) rfl).mp c1) | (have t2 : (nI (jlen Z v1)).toInt ≤ v10.toInt := (i_le rfl rfl).mp c1) | skip
      exact hQ  I L w_I q_I 
    · skip
      first | (have t3 : ¬ (((jlen Z v1 : Nat) : Int) ≤ v10.toInt) := (not_congr (i_le (i_nI (by omega)) rfl)).mp c1) | (have t3 : ¬ ((nI (jlen Z v1)).toInt ≤ v10.toInt) := (not_congr (i_le rfl rfl)).mp c1) | skip
      intro b4 eb4
      obtain ⟨x5, ex5, kb4, lb4⟩ := sh_f w_I.1 kv0 (j := 8) (k := 14) (m := 7) rfl
      cases eb4.symm.trans ex5
      intro I6 eI6
      have w_I6 : WD Z I6 := by rw [eI6]; exact WD_putA w_I 8 8 kv0 eb4 kb4 rfl rfl (by decide) trivial
      have f_I6 : FR [(8, 8)] Z I Z I6 := by rw [eI6]; exact FR_upA w_I.2.1 kv0 eb4 kb4 rfl rfl List.mem_cons_self
      have q_I6 : FR ((c1_, j1_) :: [(3, 2), (8, 8)]) Z I0 Z I6 := q_I.trans w0.1 w0.2.1 (f_I6.mono (by simp))
      refine ⟨fun c7 => ?_, fun c7 => ?_⟩
      · skip
        first | (have t8 : v8.toInt = (0) := (i_eq rfl (show (0 : Int32).toInt = 0 from rfl)).mp c7) | (have t8 : v8.toInt = (0 : Int32).toInt := (i_eq rfl rfl).mp c7) | skip
        have t9 : (0 : Int32).toInt = 0 := rfl
        refine s_X3_names w_I6 v7 (0 : Int32) kv7   (fun r10  => ?_)
        have rr10 := i_rng r10
        refine ⟨fun c11 => ?_, fun c11 => ?_⟩
        · skip
          first | (have t12 : r10.toInt = (0) := (i_eq rfl (show (0 : Int32).toInt = 0 from rfl)).mp c11) | (have t12 : r10.toInt = (0 : Int32).toInt := (i_eq rfl rfl).mp c11) | skip
          unfold f_X8_pricesInto_b130
          have o13 : vp_in v10 (jlen Z v1) := vi_of rfl (by omega) (by omega)
          refine ⟨o13, ?_⟩
          intro I14 eI14
          have w_I14 : WD Z I14 := by rw [eI14]; exact WD_putA w_I6 c1_ j1_ ho1 hr1 kv1 rfl hs1 h71 (p1 _ _)
          have f_I14 : FR [(c1_, j1_)] Z I6 Z I14 := by rw [eI14]; exact FR_upA w_I6.2.1 ho1 hr1 kv1 rfl hs1 List.mem_cons_self
          have q_I14 : FR ((c1_, j1_) :: [(3, 2), (8, 8)]) Z I0 Z I14 := q_I6.trans w0.1 w0.2.1 (f_I14.mono (by simp))
          intro x15 ex15
          have rx15 := i_rng x15
          first | (have tx15 : x15.toInt = v10.toInt + (1) := by (rw [ex15]; exact (i_add rfl (show (1 : Int32).toInt = 1 from rfl) (by omega) (by omega)))) | skip
          exact ih x15 I14 L w_I14 q_I14   (by omega)  (by omega)
        · skip
          first | (have t16 : ¬ (r10.toInt = (0)) := (not_congr (i_eq rfl (show (0 : Int32).toInt = 0 from rfl))).mp c11) | (have t16 : ¬ (r10.toInt = (0 : Int32).toInt) := (not_congr (i_eq rfl rfl)).mp c11) | skip
          intro b17 eb17
          obtain rfl : b4 = b17 := Option.some.inj (eb4.symm.trans eb17)
          refine s_X3_priceFor w_I6 v7 b4 kv7 kb4 v0 8 8 kv0 eb4 (by omega) (fun r18 I20 L21 w_I20 f_I20 p19 => ?_)
          have q_I20 : FR ((c1_, j1_) :: [(3, 2), (8, 8)]) Z I0 Z I20 := q_I6.trans w0.1 w0.2.1 (f_I20.mono (by first | decide | (unfold Ws_X3_priceFor; simp) | simp))
          have rr18 := i_rng r18
          unfold f_X8_pricesInto_b130
          have o22 : vp_in v10 (jlen Z v1) := vi_of rfl (by omega) (by omega)
          refine ⟨o22, ?_⟩
          intro I23 eI23
          have w_I23 : WD Z I23 := by rw [eI23]; exact WD_putA w_I20 c1_ j1_ ho1 hr1 kv1 rfl hs1 h71 (p1 _ _)
          have f_I23 : FR [(c1_, j1_)] Z I20 Z I23 := by rw [eI23]; exact FR_upA w_I20.2.1 ho1 hr1 kv1 rfl hs1 List.mem_cons_self
          have q_I23 : FR ((c1_, j1_) :: [(3, 2), (8, 8)]) Z I0 Z I23 := q_I20.trans w0.1 w0.2.1 (f_I23.mono (by simp))
          intro x24 ex24
          have rx24 := i_rng x24
          first | (have tx24 : x24.toInt = v10.toInt + (1) := by (rw [ex24]; exact (i_add rfl (show (1 : Int32).toInt = 1 from rfl) (by omega) (by omega)))) | skip
          exact ih x24 I23 L21 w_I23 q_I23   (by omega)  (by omega)
      · skip
        first | (have t25 : ¬ (v8.toInt = (0)) := (not_congr (i_eq rfl (show (0 : Int32).toInt = 0 from rfl))).mp c7) | (have t25 : ¬ (v8.toInt = (0 : Int32).toInt) := (not_congr (i_eq rfl rfl)).mp c7) | skip
        unfold f_X8_pricesInto_b130
        have o26 : vp_in v10 (jlen Z v1) := vi_of rfl (by omega) (by omega)
        refine ⟨o26, ?_⟩
        intro I27 eI27
        have w_I27 : WD Z I27 := by rw [eI27]; exact WD_putA w_I6 c1_ j1_ ho1 hr1 kv1 rfl hs1 h71 (p1 _ _)
        have f_I27 : FR [(c1_, j1_)] Z I6 Z I27 := by rw [eI27]; exact FR_upA w_I6.2.1 ho1 hr1 kv1 rfl hs1 List.mem_cons_self
        have q_I27 : FR ((c1_, j1_) :: [(3, 2), (8, 8)]) Z I0 Z I27 := q_I6.trans w0.1 w0.2.1 (f_I27.mono (by simp))
        intro x28 ex28
        have rx28 := i_rng x28
        first | (have tx28 : x28.toInt = v10.toInt + (1) := by (rw [ex28]; exact (i_add rfl (show (1 : Int32).toInt = 1 from rfl) (by omega) (by omega)))) | skip
        exact ih x28 I27 L w_I27 q_I27   (by omega)  (by omega)
set_option maxHeartbeats 4000000 in
set_option maxRecDepth 100000 in
theorem s_X8_pricesInto {Z : jZ} {I : jI} {L : jL} (w_I : WD Z I) (v0 : Nat) (v1 : Nat) (v2 : Int32) (v3 : Int32) (v4 : Int32) (v5 : Int32) (v6 : Int32) (kv0 : jk Z v0 8) (kv1 : jk Z v1 14) (o1_ c1_ j1_ : Nat) (ho1 : jk Z o1_ c1_) (hr1 : jr Z o1_ j1_ = some v1) (h71 : c1_ ≠ 7) (hs1 : jsr c1_ j1_ = false) (p0 : jlen Z v1 = 21) (p1 : ∀ i v, okA c1_ j1_ i v) {Q : jI → jL → Prop} (hQ : ∀  (I' : jI) (L' : jL), WD Z I' → FR ((c1_, j1_) :: [(3, 2), (8, 8)]) Z I Z I' → Q I' L') : f_X8_pricesInto v0 v1 v2 v3 v4 v5 v6 Z I L Q := by
  unfold f_X8_pricesInto
  have q_I : FR ((c1_, j1_) :: [(3, 2), (8, 8)]) Z I Z I := FR.rf
  have rv2 := i_rng v2
  have rv3 := i_rng v3
  have rv4 := i_rng v4
  have rv5 := i_rng v5
  have rv6 := i_rng v6
  refine ⟨fun c29 => ?_, fun c29 => ?_⟩
  · skip
    first | (have t30 : ¬ (v2.toInt = (0)) := (not_congr (i_eq rfl (show (0 : Int32).toInt = 0 from rfl))).mp c29) | (have t30 : ¬ (v2.toInt = (0 : Int32).toInt) := (not_congr (i_eq rfl rfl)).mp c29) | skip
    intro b31 eb31
    obtain ⟨x32, ex32, kb31⟩ := sh_o w_I.1 kv0 (j := 7) (k := 3) rfl
    cases eb31.symm.trans ex32
    unfold f_X8_pricesInto_b15
    refine s_X8_has w_I v0 v3 kv0   (fun r33 p34 => ?_)
    have rr33 := i_rng r33
    refine ⟨fun c35 => ?_, fun c35 => ?_⟩
    · skip
      first | (have t36 : ¬ (r33.toInt = (0)) := (not_congr (i_eq rfl (show (0 : Int32).toInt = 0 from rfl))).mp c35) | (have t36 : ¬ (r33.toInt = (0 : Int32).toInt) := (not_congr (i_eq rfl rfl)).mp c35) | skip
      refine ⟨fun c37 => ?_, fun c37 => ?_⟩
      · skip
        first | (have t38 : ¬ (v2.toInt = (0)) := (not_congr (i_eq rfl (show (0 : Int32).toInt = 0 from rfl))).mp c37) | (have t38 : ¬ (v2.toInt = (0 : Int32).toInt) := (not_congr (i_eq rfl rfl)).mp c37) | skip
        unfold f_X8_pricesInto_b51
        unfold f_X8_pricesInto_b52
        refine s_X8_putLetters w_I v0 v3 v4 v5 v6 kv0   (fun  I39 L40 w_I39 f_I39  => ?_)
        have q_I39 : FR ((c1_, j1_) :: [(3, 2), (8, 8)]) Z I Z I39 := q_I.trans w_I.1 w_I.2.1 (f_I39.mono (by first | decide | (unfold Ws_X8_putLetters; simp) | simp))
        intro b41 eb41
        obtain ⟨x42, ex42, kb41, lb41⟩ := sh_f w_I39.1 kv0 (j := 8) (k := 14) (m := 7) rfl
        cases eb41.symm.trans ex42
        refine s_X3_priceFor w_I39 b31 b41 kb31 kb41 v0 8 8 kv0 eb41 (by omega) (fun r43 I45 L46 w_I45 f_I45 p44 => ?_)
        have q_I45 : FR ((c1_, j1_) :: [(3, 2), (8, 8)]) Z I Z I45 := q_I39.trans w_I.1 w_I.2.1 (f_I45.mono (by first | decide | (unfold Ws_X3_priceFor; simp) | simp))
        have rr43 := i_rng r43
        have t47 : (0 : Int32).toInt = 0 := rfl
        have t48 : (0 : Int32).toInt = 0 := rfl
        exact ⟨(21 - (0 : Int32).toInt).toNat + 1, l_X8_pricesInto_L79 w_I v0 v1 v2 v3 v4 v5 v6 kv0 kv1 o1_ c1_ j1_ ho1 hr1 h71 hs1 p0 p1 b31 (0 : Int32) r43 kb31 hQ   _ (0 : Int32) I45 L46 w_I45 q_I45   (by omega)  (by omega)⟩
      · skip
        first | (have t49 : v2.toInt = (0) := (i_eq rfl (show (0 : Int32).toInt = 0 from rfl)).mp c37) | (have t49 : v2.toInt = (0 : Int32).toInt := (i_eq rfl rfl).mp c37) | skip
        refine s_X3_isTold w_I b31 kb31   (fun r50  => ?_)
        have rr50 := i_rng r50
        refine ⟨fun c51 => ?_, fun c51 => ?_⟩
        · skip
          first | (have t52 : ¬ (r50.toInt = (0)) := (not_congr (i_eq rfl (show (0 : Int32).toInt = 0 from rfl))).mp c51) | (have t52 : ¬ (r50.toInt = (0 : Int32).toInt) := (not_congr (i_eq rfl rfl)).mp c51) | skip
          unfold f_X8_pricesInto_b51
          unfold f_X8_pricesInto_b52
          refine s_X8_putLetters w_I v0 v3 v4 v5 v6 kv0   (fun  I53 L54 w_I53 f_I53  => ?_)
          have q_I53 : FR ((c1_, j1_) :: [(3, 2), (8, 8)]) Z I Z I53 := q_I.trans w_I.1 w_I.2.1 (f_I53.mono (by first | decide | (unfold Ws_X8_putLetters; simp) | simp))
          intro b55 eb55
          obtain ⟨x56, ex56, kb55, lb55⟩ := sh_f w_I53.1 kv0 (j := 8) (k := 14) (m := 7) rfl
          cases eb55.symm.trans ex56
          refine s_X3_priceFor w_I53 b31 b55 kb31 kb55 v0 8 8 kv0 eb55 (by omega) (fun r57 I59 L60 w_I59 f_I59 p58 => ?_)
          have q_I59 : FR ((c1_, j1_) :: [(3, 2), (8, 8)]) Z I Z I59 := q_I53.trans w_I.1 w_I.2.1 (f_I59.mono (by first | decide | (unfold Ws_X3_priceFor; simp) | simp))
          have rr57 := i_rng r57
          have t61 : (0 : Int32).toInt = 0 := rfl
          have t62 : (0 : Int32).toInt = 0 := rfl
          exact ⟨(21 - (0 : Int32).toInt).toNat + 1, l_X8_pricesInto_L79 w_I v0 v1 v2 v3 v4 v5 v6 kv0 kv1 o1_ c1_ j1_ ho1 hr1 h71 hs1 p0 p1 b31 (0 : Int32) r57 kb31 hQ   _ (0 : Int32) I59 L60 w_I59 q_I59   (by omega)  (by omega)⟩
        · skip
          first | (have t63 : r50.toInt = (0) := (i_eq rfl (show (0 : Int32).toInt = 0 from rfl)).mp c51) | (have t63 : r50.toInt = (0 : Int32).toInt := (i_eq rfl rfl).mp c51) | skip
          intro b64 eb64
          obtain ⟨x65, ex65, kb64, lb64⟩ := sh_f w_I.1 kv0 (j := 3) (k := 14) (m := 24) rfl
          cases eb64.symm.trans ex65
          have o66 : vp_in v3 24 := vi_of rfl (by omega) (by omega)
          refine ⟨o66, ?_⟩
          refine ⟨fun c67 => ?_, fun c67 => ?_⟩
          · skip
            first | (have t68 : ¬ ((I b64 v3.toNatClampNeg).toInt = (0)) := (not_congr (i_eq rfl (show (0 : Int32).toInt = 0 from rfl))).mp c67) | (have t68 : ¬ ((I b64 v3.toNatClampNeg).toInt = (0 : Int32).toInt) := (not_congr (i_eq rfl rfl)).mp c67) | skip
            unfold f_X8_pricesInto_b51
            unfold f_X8_pricesInto_b52
            refine s_X8_putLetters w_I v0 v3 v4 v5 v6 kv0   (fun  I69 L70 w_I69 f_I69  => ?_)
            have q_I69 : FR ((c1_, j1_) :: [(3, 2), (8, 8)]) Z I Z I69 := q_I.trans w_I.1 w_I.2.1 (f_I69.mono (by first | decide | (unfold Ws_X8_putLetters; simp) | simp))
            intro b71 eb71
            obtain ⟨x72, ex72, kb71, lb71⟩ := sh_f w_I69.1 kv0 (j := 8) (k := 14) (m := 7) rfl
            cases eb71.symm.trans ex72
            refine s_X3_priceFor w_I69 b31 b71 kb31 kb71 v0 8 8 kv0 eb71 (by omega) (fun r73 I75 L76 w_I75 f_I75 p74 => ?_)
            have q_I75 : FR ((c1_, j1_) :: [(3, 2), (8, 8)]) Z I Z I75 := q_I69.trans w_I.1 w_I.2.1 (f_I75.mono (by first | decide | (unfold Ws_X3_priceFor; simp) | simp))
            have rr73 := i_rng r73
            have t77 : (0 : Int32).toInt = 0 := rfl
            have t78 : (0 : Int32).toInt = 0 := rfl
            exact ⟨(21 - (0 : Int32).toInt).toNat + 1, l_X8_pricesInto_L79 w_I v0 v1 v2 v3 v4 v5 v6 kv0 kv1 o1_ c1_ j1_ ho1 hr1 h71 hs1 p0 p1 b31 (0 : Int32) r73 kb31 hQ   _ (0 : Int32) I75 L76 w_I75 q_I75   (by omega)  (by omega)⟩
          · skip
            first | (have t79 : (I b64 v3.toNatClampNeg).toInt = (0) := (i_eq rfl (show (0 : Int32).toInt = 0 from rfl)).mp c67) | (have t79 : (I b64 v3.toNatClampNeg).toInt = (0 : Int32).toInt := (i_eq rfl rfl).mp c67) | skip
            unfold f_X8_pricesInto_b52
            refine s_X8_putLetters w_I v0 v3 v4 v5 v6 kv0   (fun  I80 L81 w_I80 f_I80  => ?_)
            have q_I80 : FR ((c1_, j1_) :: [(3, 2), (8, 8)]) Z I Z I80 := q_I.trans w_I.1 w_I.2.1 (f_I80.mono (by first | decide | (unfold Ws_X8_putLetters; simp) | simp))
            intro b82 eb82
            obtain ⟨x83, ex83, kb82, lb82⟩ := sh_f w_I80.1 kv0 (j := 8) (k := 14) (m := 7) rfl
            cases eb82.symm.trans ex83
            refine s_X3_priceFor w_I80 b31 b82 kb31 kb82 v0 8 8 kv0 eb82 (by omega) (fun r84 I86 L87 w_I86 f_I86 p85 => ?_)
            have q_I86 : FR ((c1_, j1_) :: [(3, 2), (8, 8)]) Z I Z I86 := q_I80.trans w_I.1 w_I.2.1 (f_I86.mono (by first | decide | (unfold Ws_X3_priceFor; simp) | simp))
            have rr84 := i_rng r84
            have t88 : (1 : Int32).toInt = 1 := rfl
            have t89 : (0 : Int32).toInt = 0 := rfl
            exact ⟨(21 - (0 : Int32).toInt).toNat + 1, l_X8_pricesInto_L79 w_I v0 v1 v2 v3 v4 v5 v6 kv0 kv1 o1_ c1_ j1_ ho1 hr1 h71 hs1 p0 p1 b31 (1 : Int32) r84 kb31 hQ   _ (0 : Int32) I86 L87 w_I86 q_I86   (by omega)  (by omega)⟩
    · skip
      first | (have t90 : r33.toInt = (0) := (i_eq rfl (show (0 : Int32).toInt = 0 from rfl)).mp c35) | (have t90 : r33.toInt = (0 : Int32).toInt := (i_eq rfl rfl).mp c35) | skip
      exact hQ  I L w_I q_I 
  · skip
    first | (have t91 : v2.toInt = (0) := (i_eq rfl (show (0 : Int32).toInt = 0 from rfl)).mp c29) | (have t91 : v2.toInt = (0 : Int32).toInt := (i_eq rfl rfl).mp c29) | skip
    intro b92 eb92
    obtain ⟨x93, ex93, kb92⟩ := sh_o w_I.1 kv0 (j := 6) (k := 3) rfl
    cases eb92.symm.trans ex93
    unfold f_X8_pricesInto_b15
    refine s_X8_has w_I v0 v3 kv0   (fun r94 p95 => ?_)
    have rr94 := i_rng r94
    refine ⟨fun c96 => ?_, fun c96 => ?_⟩
    · skip
      first | (have t97 : ¬ (r94.toInt = (0)) := (not_congr (i_eq rfl (show (0 : Int32).toInt = 0 from rfl))).mp c96) | (have t97 : ¬ (r94.toInt = (0 : Int32).toInt) := (not_congr (i_eq rfl rfl)).mp c96) | skip
      refine ⟨fun c98 => ?_, fun c98 => ?_⟩
      · skip
        first | (have t99 : ¬ (v2.toInt = (0)) := (not_congr (i_eq rfl (show (0 : Int32).toInt = 0 from rfl))).mp c98) | (have t99 : ¬ (v2.toInt = (0 : Int32).toInt) := (not_congr (i_eq rfl rfl)).mp c98) | skip
        unfold f_X8_pricesInto_b51
        unfold f_X8_pricesInto_b52
        refine s_X8_putLetters w_I v0 v3 v4 v5 v6 kv0   (fun  I100 L101 w_I100 f_I100  => ?_)
        have q_I100 : FR ((c1_, j1_) :: [(3, 2), (8, 8)]) Z I Z I100 := q_I.trans w_I.1 w_I.2.1 (f_I100.mono (by first | decide | (unfold Ws_X8_putLetters; simp) | simp))
        intro b102 eb102
        obtain ⟨x103, ex103, kb102, lb102⟩ := sh_f w_I100.1 kv0 (j := 8) (k := 14) (m := 7) rfl
        cases eb102.symm.trans ex103
        refine s_X3_priceFor w_I100 b92 b102 kb92 kb102 v0 8 8 kv0 eb102 (by omega) (fun r104 I106 L107 w_I106 f_I106 p105 => ?_)
        have q_I106 : FR ((c1_, j1_) :: [(3, 2), (8, 8)]) Z I Z I106 := q_I100.trans w_I.1 w_I.2.1 (f_I106.mono (by first | decide | (unfold Ws_X3_priceFor; simp) | simp))
        have rr104 := i_rng r104
        have t108 : (0 : Int32).toInt = 0 := rfl
        have t109 : (0 : Int32).toInt = 0 := rfl
        exact ⟨(21 - (0 : Int32).toInt).toNat + 1, l_X8_pricesInto_L79 w_I v0 v1 v2 v3 v4 v5 v6 kv0 kv1 o1_ c1_ j1_ ho1 hr1 h71 hs1 p0 p1 b92 (0 : Int32) r104 kb92 hQ   _ (0 : Int32) I106 L107 w_I106 q_I106   (by omega)  (by omega)⟩
      · skip
        first | (have t110 : v2.toInt = (0) := (i_eq rfl (show (0 : Int32).toInt = 0 from rfl)).mp c98) | (have t110 : v2.toInt = (0 : Int32).toInt := (i_eq rfl rfl).mp c98) | skip
        refine s_X3_isTold w_I b92 kb92   (fun r111  => ?_)
        have rr111 := i_rng r111
        refine ⟨fun c112 => ?_, fun c112 => ?_⟩
        · skip
          first | (have t113 : ¬ (r111.toInt = (0)) := (not_congr (i_eq rfl (show (0 : Int32).toInt = 0 from rfl))).mp c112) | (have t113 : ¬ (r111.toInt = (0 : Int32).toInt) := (not_congr (i_eq rfl rfl)).mp c112) | skip
          unfold f_X8_pricesInto_b51
          unfold f_X8_pricesInto_b52
          refine s_X8_putLetters w_I v0 v3 v4 v5 v6 kv0   (fun  I114 L115 w_I114 f_I114  => ?_)
          have q_I114 : FR ((c1_, j1_) :: [(3, 2), (8, 8)]) Z I Z I114 := q_I.trans w_I.1 w_I.2.1 (f_I114.mono (by first | decide | (unfold Ws_X8_putLetters; simp) | simp))
          intro b116 eb116
          obtain ⟨x117, ex117, kb116, lb116⟩ := sh_f w_I114.1 kv0 (j := 8) (k := 14) (m := 7) rfl
          cases eb116.symm.trans ex117
          refine s_X3_priceFor w_I114 b92 b116 kb92 kb116 v0 8 8 kv0 eb116 (by omega) (fun r118 I120 L121 w_I120 f_I120 p119 => ?_)
          have q_I120 : FR ((c1_, j1_) :: [(3, 2), (8, 8)]) Z I Z I120 := q_I114.trans w_I.1 w_I.2.1 (f_I120.mono (by first | decide | (unfold Ws_X3_priceFor; simp) | simp))
          have rr118 := i_rng r118
          have t122 : (0 : Int32).toInt = 0 := rfl
          have t123 : (0 : Int32).toInt = 0 := rfl
          exact ⟨(21 - (0 : Int32).toInt).toNat + 1, l_X8_pricesInto_L79 w_I v0 v1 v2 v3 v4 v5 v6 kv0 kv1 o1_ c1_ j1_ ho1 hr1 h71 hs1 p0 p1 b92 (0 : Int32) r118 kb92 hQ   _ (0 : Int32) I120 L121 w_I120 q_I120   (by omega)  (by omega)⟩
        · skip
          first | (have t124 : r111.toInt = (0) := (i_eq rfl (show (0 : Int32).toInt = 0 from rfl)).mp c112) | (have t124 : r111.toInt = (0 : Int32).toInt := (i_eq rfl rfl).mp c112) | skip
          intro b125 eb125
          obtain ⟨x126, ex126, kb125, lb125⟩ := sh_f w_I.1 kv0 (j := 3) (k := 14) (m := 24) rfl
          cases eb125.symm.trans ex126
          have o127 : vp_in v3 24 := vi_of rfl (by omega) (by omega)
          refine ⟨o127, ?_⟩
          refine ⟨fun c128 => ?_, fun c128 => ?_⟩
          · skip
            first | (have t129 : ¬ ((I b125 v3.toNatClampNeg).toInt = (0)) := (not_congr (i_eq rfl (show (0 : Int32).toInt = 0 from rfl))).mp c128) | (have t129 : ¬ ((I b125 v3.toNatClampNeg).toInt = (0 : Int32).toInt) := (not_congr (i_eq rfl rfl)).mp c128) | skip
            unfold f_X8_pricesInto_b51
            unfold f_X8_pricesInto_b52
            refine s_X8_putLetters w_I v0 v3 v4 v5 v6 kv0   (fun  I130 L131 w_I130 f_I130  => ?_)
            have q_I130 : FR ((c1_, j1_) :: [(3, 2), (8, 8)]) Z I Z I130 := q_I.trans w_I.1 w_I.2.1 (f_I130.mono (by first | decide | (unfold Ws_X8_putLetters; simp) | simp))
            intro b132 eb132
            obtain ⟨x133, ex133, kb132, lb132⟩ := sh_f w_I130.1 kv0 (j := 8) (k := 14) (m := 7) rfl
            cases eb132.symm.trans ex133
            refine s_X3_priceFor w_I130 b92 b132 kb92 kb132 v0 8 8 kv0 eb132 (by omega) (fun r134 I136 L137 w_I136 f_I136 p135 => ?_)
            have q_I136 : FR ((c1_, j1_) :: [(3, 2), (8, 8)]) Z I Z I136 := q_I130.trans w_I.1 w_I.2.1 (f_I136.mono (by first | decide | (unfold Ws_X3_priceFor; simp) | simp))
            have rr134 := i_rng r134
            have t138 : (0 : Int32).toInt = 0 := rfl
            have t139 : (0 : Int32).toInt = 0 := rfl
            exact ⟨(21 - (0 : Int32).toInt).toNat + 1, l_X8_pricesInto_L79 w_I v0 v1 v2 v3 v4 v5 v6 kv0 kv1 o1_ c1_ j1_ ho1 hr1 h71 hs1 p0 p1 b92 (0 : Int32) r134 kb92 hQ   _ (0 : Int32) I136 L137 w_I136 q_I136   (by omega)  (by omega)⟩
          · skip
            first | (have t140 : (I b125 v3.toNatClampNeg).toInt = (0) := (i_eq rfl (show (0 : Int32).toInt = 0 from rfl)).mp c128) | (have t140 : (I b125 v3.toNatClampNeg).toInt = (0 : Int32).toInt := (i_eq rfl rfl).mp c128) | skip
            unfold f_X8_pricesInto_b52
            refine s_X8_putLetters w_I v0 v3 v4 v5 v6 kv0   (fun  I141 L142 w_I141 f_I141  => ?_)
            have q_I141 : FR ((c1_, j1_) :: [(3, 2), (8, 8)]) Z I Z I141 := q_I.trans w_I.1 w_I.2.1 (f_I141.mono (by first | decide | (unfold Ws_X8_putLetters; simp) | simp))
            intro b143 eb143
            obtain ⟨x144, ex144, kb143, lb143⟩ := sh_f w_I141.1 kv0 (j := 8) (k := 14) (m := 7) rfl
            cases eb143.symm.trans ex144
            refine s_X3_priceFor w_I141 b92 b143 kb92 kb143 v0 8 8 kv0 eb143 (by omega) (fun r145 I147 L148 w_I147 f_I147 p146 => ?_)
            have q_I147 : FR ((c1_, j1_) :: [(3, 2), (8, 8)]) Z I Z I147 := q_I141.trans w_I.1 w_I.2.1 (f_I147.mono (by first | decide | (unfold Ws_X3_priceFor; simp) | simp))
            have rr145 := i_rng r145
            have t149 : (1 : Int32).toInt = 1 := rfl
            have t150 : (0 : Int32).toInt = 0 := rfl
            exact ⟨(21 - (0 : Int32).toInt).toNat + 1, l_X8_pricesInto_L79 w_I v0 v1 v2 v3 v4 v5 v6 kv0 kv1 o1_ c1_ j1_ ho1 hr1 h71 hs1 p0 p1 b92 (1 : Int32) r145 kb92 hQ   _ (0 : Int32) I147 L148 w_I147 q_I147   (by omega)  (by omega)⟩
    · skip
      first | (have t151 : r94.toInt = (0) := (i_eq rfl (show (0 : Int32).toInt = 0 from rfl)).mp c96) | (have t151 : r94.toInt = (0 : Int32).toInt := (i_eq rfl rfl).mp c96) | skip
      exact hQ  I L w_I q_I 
set_option maxHeartbeats 4000000 in
set_option maxRecDepth 100000 in
theorem s_X11_isAsked {Z : jZ} {I : jI} {L : jL} (w_I : WD Z I) (v0 : Int32) {Q : Int32 → jI → jL → Prop} (hQ : ∀ (r : Int32), ((r.toInt = 1 ∧ 0 ≤ v0.toInt ∧ v0.toInt ≤ 20) ∨ (r.toInt = 0 ∧ ¬ (0 ≤ v0.toInt ∧ v0.toInt ≤ 20))) → Q r I L) : f_X11_isAsked v0 Z I L Q := by
  unfold f_X11_isAsked
  have rv0 := i_rng v0
  refine ⟨fun c1 => ?_, fun c1 => ?_⟩
  · skip
    first | (have t2 : v0.toInt < (0) := (i_lt rfl (show (0 : Int32).toInt = 0 from rfl)).mp c1) | (have t2 : v0.toInt < (0 : Int32).toInt := (i_lt rfl rfl).mp c1) | skip
    have t3 : (0 : Int32).toInt = 0 := rfl
    exact hQ (0 : Int32) (by omega)
  · skip
    first | (have t4 : ¬ (v0.toInt < (0)) := (not_congr (i_lt rfl (show (0 : Int32).toInt = 0 from rfl))).mp c1) | (have t4 : ¬ (v0.toInt < (0 : Int32).toInt) := (not_congr (i_lt rfl rfl)).mp c1) | skip
    refine ⟨fun c5 => ?_, fun c5 => ?_⟩
    · skip
      first | (have t6 : (20) < v0.toInt := (i_lt (show (20 : Int32).toInt = 20 from rfl) rfl).mp c5) | (have t6 : (20 : Int32).toInt < v0.toInt := (i_lt rfl rfl).mp c5) | skip
      have t7 : (0 : Int32).toInt = 0 := rfl
      exact hQ (0 : Int32) (by omega)
    · skip
      first | (have t8 : ¬ ((20) < v0.toInt) := (not_congr (i_lt (show (20 : Int32).toInt = 20 from rfl) rfl)).mp c5) | (have t8 : ¬ ((20 : Int32).toInt < v0.toInt) := (not_congr (i_lt rfl rfl)).mp c5) | skip
      have t9 : (1 : Int32).toInt = 1 := rfl
      exact hQ (1 : Int32) (by omega)
def Ws_X8_build : List (Nat × Nat) := [(4, 0), (4, 1), (4, 4), (8, 0), (8, 1), (8, 2), (8, 3), (8, 9)]
set_option maxHeartbeats 4000000 in
set_option maxRecDepth 100000 in
theorem s_X8_build {Z : jZ} {I : jI} {L : jL} (w_I : WD Z I) (v0 : Nat) (v1 : Nat) (kv0 : jk Z v0 8) (kv1 : jk Z v1 9) {Q : jI → jL → Prop} (hQ : ∀  (I' : jI) (L' : jL), WD Z I' → FR Ws_X8_build Z I Z I' → Q I' L') : f_X8_build v0 v1 Z I L Q := by
  unfold f_X8_build
  have q_I : FR Ws_X8_build Z I Z I := FR.rf
  have t2 : 0 ≤ (I v1 5).toInt ∧ (I v1 5).toInt ≤ 24 := w_I.fld 9 5 kv1 (by decide)
  intro I3 eI3
  have w_I3 : WD Z I3 := by rw [eI3]; exact WD_putF w_I 8 9 kv0 (by decide) (by decide) (by constructor <;> omega)
  have f_I3 : FR [(8, 9)] Z I Z I3 := by rw [eI3]; exact FR_putF kv0 (by decide) List.mem_cons_self
  have q_I3 : FR Ws_X8_build Z I Z I3 := q_I.trans w_I.1 w_I.2.1 (f_I3.mono (by decide))
  have u4 : (I3 v1 5).toInt = (I v1 5).toInt := by rw [f_I3.2.2.1 v1 9 5 kv1 (by decide) (by decide)]
  first | (have u5 : (I3 v0 9).toInt = (I v1 5).toInt := by (rw [eI3, show jpI I v0 9 (I v1 5) v0 9 = (I v1 5) from jpI_at] <;> exact rfl)) | skip
  intro b6 eb6
  obtain ⟨x7, ex7, kb6, lb6⟩ := sh_f w_I3.1 kv1 (j := 0) (k := 14) (m := 24) rfl
  cases eb6.symm.trans ex7
  intro b8 eb8
  obtain ⟨x9, ex9, kb8, lb8⟩ := sh_f w_I3.1 kv0 (j := 0) (k := 14) (m := 24) rfl
  cases eb8.symm.trans ex9
  have t10 : (0 : Int32).toInt = 0 := rfl
  have t11 : (0 : Int32).toInt = 0 := rfl
  have t12 : (24 : Int32).toInt = 24 := rfl
  have t13 := i_nat (x := (0 : Int32)) (show (0 : Int32).toInt = 0 from rfl) (by omega)
  have t14 := i_nat (x := (0 : Int32)) (show (0 : Int32).toInt = 0 from rfl) (by omega)
  have t15 := i_nat (x := (24 : Int32)) (show (24 : Int32).toInt = 24 from rfl) (by omega)
  refine ⟨⟨(not_congr (i_lt (show (0 : Int32).toInt = 0 from rfl) (show (0 : Int32).toInt = 0 from rfl))).mpr (by omega), (not_congr (i_lt (show (0 : Int32).toInt = 0 from rfl) (show (0 : Int32).toInt = 0 from rfl))).mpr (by omega), (not_congr (i_lt (show (24 : Int32).toInt = 24 from rfl) (show (0 : Int32).toInt = 0 from rfl))).mpr (by omega), by omega, by omega⟩, ?_⟩
  intro I16 eI16
  have w_I16 : WD Z I16 := by rw [eI16]; exact WD_cpy w_I3 8 0 kv0 eb8 kb8 rfl rfl (by decide) (fun _ _ _ => trivial)
  have f_I16 : FR [(8, 0)] Z I3 Z I16 := by rw [eI16]; exact FR_upA w_I3.2.1 kv0 eb8 kb8 rfl rfl List.mem_cons_self
  have q_I16 : FR Ws_X8_build Z I Z I16 := q_I3.trans w_I.1 w_I.2.1 (f_I16.mono (by decide))
  have u17 : (I16 v1 5).toInt = (I3 v1 5).toInt := by rw [f_I16.2.2.1 v1 9 5 kv1 (by decide) (by decide)]
  have u18 : (I16 v0 9).toInt = (I3 v0 9).toInt := by rw [f_I16.2.2.1 v0 8 9 kv0 (by decide) (by decide)]
  intro b19 eb19
  obtain ⟨x20, ex20, kb19, lb19⟩ := sh_f w_I16.1 kv1 (j := 1) (k := 14) (m := 24) rfl
  cases eb19.symm.trans ex20
  intro b21 eb21
  obtain ⟨x22, ex22, kb21, lb21⟩ := sh_f w_I16.1 kv0 (j := 1) (k := 14) (m := 24) rfl
  cases eb21.symm.trans ex22
  have t23 : (0 : Int32).toInt = 0 := rfl
  have t24 : (0 : Int32).toInt = 0 := rfl
  have t25 : (24 : Int32).toInt = 24 := rfl
  have t26 := i_nat (x := (0 : Int32)) (show (0 : Int32).toInt = 0 from rfl) (by omega)
  have t27 := i_nat (x := (0 : Int32)) (show (0 : Int32).toInt = 0 from rfl) (by omega)
  have t28 := i_nat (x := (24 : Int32)) (show (24 : Int32).toInt = 24 from rfl) (by omega)
  refine ⟨⟨(not_congr (i_lt (show (0 : Int32).toInt = 0 from rfl) (show (0 : Int32).toInt = 0 from rfl))).mpr (by omega), (not_congr (i_lt (show (0 : Int32).toInt = 0 from rfl) (show (0 : Int32).toInt = 0 from rfl))).mpr (by omega), (not_congr (i_lt (show (24 : Int32).toInt = 24 from rfl) (show (0 : Int32).toInt = 0 from rfl))).mpr (by omega), by omega, by omega⟩, ?_⟩
  intro I29 eI29
  have w_I29 : WD Z I29 := by rw [eI29]; exact WD_cpy w_I16 8 1 kv0 eb21 kb21 rfl rfl (by decide) (fun _ _ _ => trivial)
  have f_I29 : FR [(8, 1)] Z I16 Z I29 := by rw [eI29]; exact FR_upA w_I16.2.1 kv0 eb21 kb21 rfl rfl List.mem_cons_self
  have q_I29 : FR Ws_X8_build Z I Z I29 := q_I16.trans w_I.1 w_I.2.1 (f_I29.mono (by decide))
  have u30 : (I29 v1 5).toInt = (I16 v1 5).toInt := by rw [f_I29.2.2.1 v1 9 5 kv1 (by decide) (by decide)]
  have u31 : (I29 v0 9).toInt = (I16 v0 9).toInt := by rw [f_I29.2.2.1 v0 8 9 kv0 (by decide) (by decide)]
  intro b32 eb32
  obtain ⟨x33, ex33, kb32, lb32⟩ := sh_f w_I29.1 kv1 (j := 2) (k := 14) (m := 24) rfl
  cases eb32.symm.trans ex33
  intro b34 eb34
  obtain ⟨x35, ex35, kb34, lb34⟩ := sh_f w_I29.1 kv0 (j := 2) (k := 14) (m := 24) rfl
  cases eb34.symm.trans ex35
  have t36 : (0 : Int32).toInt = 0 := rfl
  have t37 : (0 : Int32).toInt = 0 := rfl
  have t38 : (24 : Int32).toInt = 24 := rfl
  have t39 := i_nat (x := (0 : Int32)) (show (0 : Int32).toInt = 0 from rfl) (by omega)
  have t40 := i_nat (x := (0 : Int32)) (show (0 : Int32).toInt = 0 from rfl) (by omega)
  have t41 := i_nat (x := (24 : Int32)) (show (24 : Int32).toInt = 24 from rfl) (by omega)
  refine ⟨⟨(not_congr (i_lt (show (0 : Int32).toInt = 0 from rfl) (show (0 : Int32).toInt = 0 from rfl))).mpr (by omega), (not_congr (i_lt (show (0 : Int32).toInt = 0 from rfl) (show (0 : Int32).toInt = 0 from rfl))).mpr (by omega), (not_congr (i_lt (show (24 : Int32).toInt = 24 from rfl) (show (0 : Int32).toInt = 0 from rfl))).mpr (by omega), by omega, by omega⟩, ?_⟩
  intro I42 eI42
  have w_I42 : WD Z I42 := by rw [eI42]; exact WD_cpy w_I29 8 2 kv0 eb34 kb34 rfl rfl (by decide) (fun q h1 h2 => w_I29.arr 9 2 kv1 eb32 kb32 rfl rfl _)
  have f_I42 : FR [(8, 2)] Z I29 Z I42 := by rw [eI42]; exact FR_upA w_I29.2.1 kv0 eb34 kb34 rfl rfl List.mem_cons_self
  have q_I42 : FR Ws_X8_build Z I Z I42 := q_I29.trans w_I.1 w_I.2.1 (f_I42.mono (by decide))
  have u43 : (I42 v1 5).toInt = (I29 v1 5).toInt := by rw [f_I42.2.2.1 v1 9 5 kv1 (by decide) (by decide)]
  have u44 : (I42 v0 9).toInt = (I29 v0 9).toInt := by rw [f_I42.2.2.1 v0 8 9 kv0 (by decide) (by decide)]
  intro b45 eb45
  obtain ⟨x46, ex46, kb45, lb45⟩ := sh_f w_I42.1 kv1 (j := 3) (k := 14) (m := 24) rfl
  cases eb45.symm.trans ex46
  intro b47 eb47
  obtain ⟨x48, ex48, kb47, lb47⟩ := sh_f w_I42.1 kv0 (j := 3) (k := 14) (m := 24) rfl
  cases eb47.symm.trans ex48
  have t49 : (0 : Int32).toInt = 0 := rfl
  have t50 : (0 : Int32).toInt = 0 := rfl
  have t51 : (24 : Int32).toInt = 24 := rfl
  have t52 := i_nat (x := (0 : Int32)) (show (0 : Int32).toInt = 0 from rfl) (by omega)
  have t53 := i_nat (x := (0 : Int32)) (show (0 : Int32).toInt = 0 from rfl) (by omega)
  have t54 := i_nat (x := (24 : Int32)) (show (24 : Int32).toInt = 24 from rfl) (by omega)
  refine ⟨⟨(not_congr (i_lt (show (0 : Int32).toInt = 0 from rfl) (show (0 : Int32).toInt = 0 from rfl))).mpr (by omega), (not_congr (i_lt (show (0 : Int32).toInt = 0 from rfl) (show (0 : Int32).toInt = 0 from rfl))).mpr (by omega), (not_congr (i_lt (show (24 : Int32).toInt = 24 from rfl) (show (0 : Int32).toInt = 0 from rfl))).mpr (by omega), by omega, by omega⟩, ?_⟩
  intro I55 eI55
  have w_I55 : WD Z I55 := by rw [eI55]; exact WD_cpy w_I42 8 3 kv0 eb47 kb47 rfl rfl (by decide) (fun _ _ _ => trivial)
  have f_I55 : FR [(8, 3)] Z I42 Z I55 := by rw [eI55]; exact FR_upA w_I42.2.1 kv0 eb47 kb47 rfl rfl List.mem_cons_self
  have q_I55 : FR Ws_X8_build Z I Z I55 := q_I42.trans w_I.1 w_I.2.1 (f_I55.mono (by decide))
  have u56 : (I55 v1 5).toInt = (I42 v1 5).toInt := by rw [f_I55.2.2.1 v1 9 5 kv1 (by decide) (by decide)]
  have u57 : (I55 v0 9).toInt = (I42 v0 9).toInt := by rw [f_I55.2.2.1 v0 8 9 kv0 (by decide) (by decide)]
  intro b58 eb58
  obtain ⟨x59, ex59, kb58⟩ := sh_o w_I55.1 kv0 (j := 4) (k := 4) rfl
  cases eb58.symm.trans ex59
  intro b60 eb60
  obtain ⟨x61, ex61, kb60, lb60⟩ := sh_f w_I55.1 kv1 (j := 4) (k := 14) (m := 24) rfl
  cases eb60.symm.trans ex61
  have t63 : 0 ≤ (I55 v0 9).toInt ∧ (I55 v0 9).toInt ≤ 24 := w_I55.fld 8 9 kv0 (by decide)
  refine s_X4_deal w_I55 b58 b60 (I55 v0 9) kb58 kb60 v1 9 4 kv1 eb60 (by omega) (fun  I64 L65 w_I64 f_I64  => ?_)
  have q_I64 : FR Ws_X8_build Z I Z I64 := q_I55.trans w_I.1 w_I.2.1 (f_I64.mono (by decide))
  have u66 : (I64 v1 5).toInt = (I55 v1 5).toInt := by rw [f_I64.2.2.1 v1 9 5 kv1 (by decide) (by decide)]
  have u67 : (I64 v0 9).toInt = (I55 v0 9).toInt := by rw [f_I64.2.2.1 v0 8 9 kv0 (by decide) (by decide)]
  exact hQ  I64 L65 w_I64 q_I64 
set_option maxHeartbeats 4000000 in
set_option maxRecDepth 100000 in
theorem l_X8_sumOfAsks_L4 {Z : jZ} {I : jI} {L : jL} {Q : Int32 → jI → jL → Prop} (w_I : WD Z I) (v0 : Nat) (kv0 : jk Z v0 8) (hQ : ∀ (r : Int32), Q r I L) : ∀ (n : Nat) (v1 : Int32) (v2 : Int32) ,   (0 ≤ v2.toInt ∧ v2.toInt ≤ 24) → 24 - v2.toInt < (n : Int) → f_X8_sumOfAsks_L4  Z Q n v0 v1 v2 I L := by
  intro n
  induction n with
  | zero =>
    intro v1 v2   li  me
    exfalso
    omega
  | succ n ih =>
    intro v1 v2   li  me
    unfold f_X8_sumOfAsks_L4
    have rv1 := i_rng v1
    have rv2 := i_rng v2
    have t2 : 0 ≤ (I v0 9).toInt ∧ (I v0 9).toInt ≤ 24 := w_I.fld 8 9 kv0 (by decide)
    refine ⟨fun c3 => ?_, fun c3 => ?_⟩
    · skip
      first | (have t4 : (I v0 9).toInt ≤ v2.toInt := (i_le rfl rfl).mp c3) | (have t4 : (I v0 9).toInt ≤ v2.toInt := (i_le rfl rfl).mp c3) | skip
      exact hQ v1 
    · skip
      first | (have t5 : ¬ ((I v0 9).toInt ≤ v2.toInt) := (not_congr (i_le rfl rfl)).mp c3) | (have t5 : ¬ ((I v0 9).toInt ≤ v2.toInt) := (not_congr (i_le rfl rfl)).mp c3) | skip
      intro b6 eb6
      obtain ⟨x7, ex7, kb6, lb6⟩ := sh_f w_I.1 kv0 (j := 2) (k := 14) (m := 24) rfl
      cases eb6.symm.trans ex7
      have o8 : vp_in v2 24 := vi_of rfl (by omega) (by omega)
      refine ⟨o8, ?_⟩
      have t9 : 0 ≤ (I b6 v2.toNatClampNeg).toInt ∧ (I b6 v2.toNatClampNeg).toInt ≤ 20 := w_I.arr 8 2 kv0 eb6 kb6 rfl rfl _
      intro x10 ex10
      have rx10 := i_rng x10
      first | (have tx10 : x10.toInt = (v1.toInt + (I b6 v2.toNatClampNeg).toInt) := by (rw [ex10]; exact (i_add rfl rfl (by omega) (by omega)))) | (have tx10 : x10.toInt = (v1 + (I b6 v2.toNatClampNeg)).toInt := by rw [ex10])
      intro x11 ex11
      have rx11 := i_rng x11
      first | (have tx11 : x11.toInt = v2.toInt + (1) := by (rw [ex11]; exact (i_add rfl (show (1 : Int32).toInt = 1 from rfl) (by omega) (by omega)))) | skip
      exact ih x10 x11   (by omega)  (by omega)
set_option maxHeartbeats 4000000 in
set_option maxRecDepth 100000 in
theorem s_X8_sumOfAsks {Z : jZ} {I : jI} {L : jL} (w_I : WD Z I) (v0 : Nat) (kv0 : jk Z v0 8) {Q : Int32 → jI → jL → Prop} (hQ : ∀ (r : Int32), Q r I L) : f_X8_sumOfAsks v0 Z I L Q := by
  unfold f_X8_sumOfAsks
  have t12 : (0 : Int32).toInt = 0 := rfl
  have t13 : (0 : Int32).toInt = 0 := rfl
  exact ⟨(24 - (0 : Int32).toInt).toNat + 1, l_X8_sumOfAsks_L4 w_I v0 kv0   hQ   _ (0 : Int32) (0 : Int32)   (by omega)  (by omega)⟩
def Ws_X8_quarrel : List (Nat × Nat) := [(8, 5)]
set_option maxHeartbeats 4000000 in
set_option maxRecDepth 100000 in
theorem s_X8_quarrel {Z : jZ} {I : jI} {L : jL} (w_I : WD Z I) (v0 : Nat) (v1 : Int32) (v2 : Int32) (v3 : Int32) (kv0 : jk Z v0 8) {Q : jI → jL → Prop} (hQ : ∀  (I' : jI) (L' : jL), WD Z I' → FR Ws_X8_quarrel Z I Z I' → Q I' L') : f_X8_quarrel v0 v1 v2 v3 Z I L Q := by
  unfold f_X8_quarrel
  have q_I : FR Ws_X8_quarrel Z I Z I := FR.rf
  have rv1 := i_rng v1
  have rv2 := i_rng v2
  have rv3 := i_rng v3
  refine s_X11_isFamily w_I v1    (fun r1 p2 => ?_)
  have rr1 := i_rng r1
  refine ⟨fun c3 => ?_, fun c3 => ?_⟩
  · skip
    first | (have t4 : r1.toInt = (0) := (i_eq rfl (show (0 : Int32).toInt = 0 from rfl)).mp c3) | (have t4 : r1.toInt = (0 : Int32).toInt := (i_eq rfl rfl).mp c3) | skip
    exact hQ  I L w_I q_I 
  · skip
    first | (have t5 : ¬ (r1.toInt = (0)) := (not_congr (i_eq rfl (show (0 : Int32).toInt = 0 from rfl))).mp c3) | (have t5 : ¬ (r1.toInt = (0 : Int32).toInt) := (not_congr (i_eq rfl rfl)).mp c3) | skip
    refine s_X11_isFamily w_I v2    (fun r6 p7 => ?_)
    have rr6 := i_rng r6
    refine ⟨fun c8 => ?_, fun c8 => ?_⟩
    · skip
      first | (have t9 : r6.toInt = (0) := (i_eq rfl (show (0 : Int32).toInt = 0 from rfl)).mp c8) | (have t9 : r6.toInt = (0 : Int32).toInt := (i_eq rfl rfl).mp c8) | skip
      exact hQ  I L w_I q_I 
    · skip
      first | (have t10 : ¬ (r6.toInt = (0)) := (not_congr (i_eq rfl (show (0 : Int32).toInt = 0 from rfl))).mp c8) | (have t10 : ¬ (r6.toInt = (0 : Int32).toInt) := (not_congr (i_eq rfl rfl)).mp c8) | skip
      intro b11 eb11
      obtain ⟨x12, ex12, kb11, lb11⟩ := sh_f w_I.1 kv0 (j := 5) (k := 14) (m := 8) rfl
      cases eb11.symm.trans ex12
      refine ⟨fun c13 => ?_, fun c13 => ?_⟩
      · skip
        first | (have t14 : v3.toInt = (0) := (i_eq rfl (show (0 : Int32).toInt = 0 from rfl)).mp c13) | (have t14 : v3.toInt = (0 : Int32).toInt := (i_eq rfl rfl).mp c13) | skip
        intro b15 eb15
        obtain rfl : b11 = b15 := Option.some.inj (eb11.symm.trans eb15)
        have o16 : vp_in v1 8 := vi_of rfl (by omega) (by omega)
        refine ⟨o16, ?_⟩
        unfold f_X8_quarrel_b48
        have o17 : vp_in v1 (jlen Z b11) := vi_of rfl (by omega) (by omega)
        refine ⟨o17, ?_⟩
        intro I18 eI18
        have w_I18 : WD Z I18 := by rw [eI18]; exact WD_putA w_I 8 5 kv0 eb11 kb11 rfl rfl (by decide) trivial
        have f_I18 : FR [(8, 5)] Z I Z I18 := by rw [eI18]; exact FR_upA w_I.2.1 kv0 eb11 kb11 rfl rfl List.mem_cons_self
        have q_I18 : FR Ws_X8_quarrel Z I Z I18 := q_I.trans w_I.1 w_I.2.1 (f_I18.mono (by decide))
        intro b19 eb19
        obtain rfl : b11 = b19 := Option.some.inj (eb11.symm.trans eb19)
        refine ⟨fun c20 => ?_, fun c20 => ?_⟩
        · skip
          first | (have t21 : v3.toInt = (0) := (i_eq rfl (show (0 : Int32).toInt = 0 from rfl)).mp c20) | (have t21 : v3.toInt = (0 : Int32).toInt := (i_eq rfl rfl).mp c20) | skip
          intro b22 eb22
          obtain rfl : b11 = b22 := Option.some.inj (eb11.symm.trans eb22)
          have o23 : vp_in v2 8 := vi_of rfl (by omega) (by omega)
          refine ⟨o23, ?_⟩
          unfold f_X8_quarrel_b83
          have o24 : vp_in v2 (jlen Z b11) := vi_of rfl (by omega) (by omega)
          refine ⟨o24, ?_⟩
          intro I25 eI25
          have w_I25 : WD Z I25 := by rw [eI25]; exact WD_putA w_I18 8 5 kv0 eb11 kb11 rfl rfl (by decide) trivial
          have f_I25 : FR [(8, 5)] Z I18 Z I25 := by rw [eI25]; exact FR_upA w_I18.2.1 kv0 eb11 kb11 rfl rfl List.mem_cons_self
          have q_I25 : FR Ws_X8_quarrel Z I Z I25 := q_I18.trans w_I.1 w_I.2.1 (f_I25.mono (by decide))
          exact hQ  I25 L w_I25 q_I25 
        · skip
          first | (have t26 : ¬ (v3.toInt = (0)) := (not_congr (i_eq rfl (show (0 : Int32).toInt = 0 from rfl))).mp c20) | (have t26 : ¬ (v3.toInt = (0 : Int32).toInt) := (not_congr (i_eq rfl rfl)).mp c20) | skip
          intro b27 eb27
          obtain rfl : b11 = b27 := Option.some.inj (eb11.symm.trans eb27)
          have o28 : vp_in v2 8 := vi_of rfl (by omega) (by omega)
          refine ⟨o28, ?_⟩
          unfold f_X8_quarrel_b83
          have o29 : vp_in v2 (jlen Z b11) := vi_of rfl (by omega) (by omega)
          refine ⟨o29, ?_⟩
          intro I30 eI30
          have w_I30 : WD Z I30 := by rw [eI30]; exact WD_putA w_I18 8 5 kv0 eb11 kb11 rfl rfl (by decide) trivial
          have f_I30 : FR [(8, 5)] Z I18 Z I30 := by rw [eI30]; exact FR_upA w_I18.2.1 kv0 eb11 kb11 rfl rfl List.mem_cons_self
          have q_I30 : FR Ws_X8_quarrel Z I Z I30 := q_I18.trans w_I.1 w_I.2.1 (f_I30.mono (by decide))
          exact hQ  I30 L w_I30 q_I30 
      · skip
        first | (have t31 : ¬ (v3.toInt = (0)) := (not_congr (i_eq rfl (show (0 : Int32).toInt = 0 from rfl))).mp c13) | (have t31 : ¬ (v3.toInt = (0 : Int32).toInt) := (not_congr (i_eq rfl rfl)).mp c13) | skip
        intro b32 eb32
        obtain rfl : b11 = b32 := Option.some.inj (eb11.symm.trans eb32)
        have o33 : vp_in v1 8 := vi_of rfl (by omega) (by omega)
        refine ⟨o33, ?_⟩
        unfold f_X8_quarrel_b48
        have o34 : vp_in v1 (jlen Z b11) := vi_of rfl (by omega) (by omega)
        refine ⟨o34, ?_⟩
        intro I35 eI35
        have w_I35 : WD Z I35 := by rw [eI35]; exact WD_putA w_I 8 5 kv0 eb11 kb11 rfl rfl (by decide) trivial
        have f_I35 : FR [(8, 5)] Z I Z I35 := by rw [eI35]; exact FR_upA w_I.2.1 kv0 eb11 kb11 rfl rfl List.mem_cons_self
        have q_I35 : FR Ws_X8_quarrel Z I Z I35 := q_I.trans w_I.1 w_I.2.1 (f_I35.mono (by decide))
        intro b36 eb36
        obtain rfl : b11 = b36 := Option.some.inj (eb11.symm.trans eb36)
        refine ⟨fun c37 => ?_, fun c37 => ?_⟩
        · skip
          first | (have t38 : v3.toInt = (0) := (i_eq rfl (show (0 : Int32).toInt = 0 from rfl)).mp c37) | (have t38 : v3.toInt = (0 : Int32).toInt := (i_eq rfl rfl).mp c37) | skip
          intro b39 eb39
          obtain rfl : b11 = b39 := Option.some.inj (eb11.symm.trans eb39)
          have o40 : vp_in v2 8 := vi_of rfl (by omega) (by omega)
          refine ⟨o40, ?_⟩
          unfold f_X8_quarrel_b83
          have o41 : vp_in v2 (jlen Z b11) := vi_of rfl (by omega) (by omega)
          refine ⟨o41, ?_⟩
          intro I42 eI42
          have w_I42 : WD Z I42 := by rw [eI42]; exact WD_putA w_I35 8 5 kv0 eb11 kb11 rfl rfl (by decide) trivial
          have f_I42 : FR [(8, 5)] Z I35 Z I42 := by rw [eI42]; exact FR_upA w_I35.2.1 kv0 eb11 kb11 rfl rfl List.mem_cons_self
          have q_I42 : FR Ws_X8_quarrel Z I Z I42 := q_I35.trans w_I.1 w_I.2.1 (f_I42.mono (by decide))
          exact hQ  I42 L w_I42 q_I42 
        · skip
          first | (have t43 : ¬ (v3.toInt = (0)) := (not_congr (i_eq rfl (show (0 : Int32).toInt = 0 from rfl))).mp c37) | (have t43 : ¬ (v3.toInt = (0 : Int32).toInt) := (not_congr (i_eq rfl rfl)).mp c37) | skip
          intro b44 eb44
          obtain rfl : b11 = b44 := Option.some.inj (eb11.symm.trans eb44)
          have o45 : vp_in v2 8 := vi_of rfl (by omega) (by omega)
          refine ⟨o45, ?_⟩
          unfold f_X8_quarrel_b83
          have o46 : vp_in v2 (jlen Z b11) := vi_of rfl (by omega) (by omega)
          refine ⟨o46, ?_⟩
          intro I47 eI47
          have w_I47 : WD Z I47 := by rw [eI47]; exact WD_putA w_I35 8 5 kv0 eb11 kb11 rfl rfl (by decide) trivial
          have f_I47 : FR [(8, 5)] Z I35 Z I47 := by rw [eI47]; exact FR_upA w_I35.2.1 kv0 eb11 kb11 rfl rfl List.mem_cons_self
          have q_I47 : FR Ws_X8_quarrel Z I Z I47 := q_I35.trans w_I.1 w_I.2.1 (f_I47.mono (by decide))
          exact hQ  I47 L w_I47 q_I47 
set_option maxHeartbeats 4000000 in
set_option maxRecDepth 100000 in
theorem l_X8_sumOfFeuds_L4 {Z : jZ} {I : jI} {L : jL} {Q : Int32 → jI → jL → Prop} (w_I : WD Z I) (v0 : Nat) (kv0 : jk Z v0 8) (hQ : ∀ (r : Int32), Q r I L) : ∀ (n : Nat) (v1 : Int32) (v2 : Int32) ,   (0 ≤ v2.toInt ∧ v2.toInt ≤ 8) → 8 - v2.toInt < (n : Int) → f_X8_sumOfFeuds_L4  Z Q n v0 v1 v2 I L := by
  intro n
  induction n with
  | zero =>
    intro v1 v2   li  me
    exfalso
    omega
  | succ n ih =>
    intro v1 v2   li  me
    unfold f_X8_sumOfFeuds_L4
    have rv1 := i_rng v1
    have rv2 := i_rng v2
    refine ⟨fun c1 => ?_, fun c1 => ?_⟩
    · skip
      first | (have t2 : (8) ≤ v2.toInt := (i_le (show (8 : Int32).toInt = 8 from rfl) rfl).mp c1) | (have t2 : (8 : Int32).toInt ≤ v2.toInt := (i_le rfl rfl).mp c1) | skip
      try (have t3 : (v1 / (2 : Int32)).toInt = (v1.toInt / (2)) := (i_div rfl (show (2 : Int32).toInt = 2 from rfl) (by omega) (by omega)))
      exact hQ (v1 / (2 : Int32)) 
    · skip
      first | (have t4 : ¬ ((8) ≤ v2.toInt) := (not_congr (i_le (show (8 : Int32).toInt = 8 from rfl) rfl)).mp c1) | (have t4 : ¬ ((8 : Int32).toInt ≤ v2.toInt) := (not_congr (i_le rfl rfl)).mp c1) | skip
      intro b5 eb5
      obtain ⟨x6, ex6, kb5, lb5⟩ := sh_f w_I.1 kv0 (j := 5) (k := 14) (m := 8) rfl
      cases eb5.symm.trans ex6
      have o7 : vp_in v2 8 := vi_of rfl (by omega) (by omega)
      refine ⟨o7, ?_⟩
      refine s_J6_bitCount_0f7a4 w_I (I b5 v2.toNatClampNeg)    (fun r8 p9 => ?_)
      have rr8 := i_rng r8
      intro x10 ex10
      have rx10 := i_rng x10
      first | (have tx10 : x10.toInt = (v1.toInt + r8.toInt) := by (rw [ex10]; exact (i_add rfl rfl (by omega) (by omega)))) | (have tx10 : x10.toInt = (v1 + r8).toInt := by rw [ex10])
      intro x11 ex11
      have rx11 := i_rng x11
      first | (have tx11 : x11.toInt = v2.toInt + (1) := by (rw [ex11]; exact (i_add rfl (show (1 : Int32).toInt = 1 from rfl) (by omega) (by omega)))) | skip
      exact ih x10 x11   (by omega)  (by omega)
set_option maxHeartbeats 4000000 in
set_option maxRecDepth 100000 in
theorem s_X8_sumOfFeuds {Z : jZ} {I : jI} {L : jL} (w_I : WD Z I) (v0 : Nat) (kv0 : jk Z v0 8) {Q : Int32 → jI → jL → Prop} (hQ : ∀ (r : Int32), Q r I L) : f_X8_sumOfFeuds v0 Z I L Q := by
  unfold f_X8_sumOfFeuds
  have t12 : (0 : Int32).toInt = 0 := rfl
  have t13 : (0 : Int32).toInt = 0 := rfl
  exact ⟨(8 - (0 : Int32).toInt).toNat + 1, l_X8_sumOfFeuds_L4 w_I v0 kv0   hQ   _ (0 : Int32) (0 : Int32)   (by omega)  (by omega)⟩
set_option maxHeartbeats 4000000 in
set_option maxRecDepth 100000 in
theorem l_X8_mindsFeud_L50 {Z : jZ} {I : jI} {L : jL} {Q : Int32 → jI → jL → Prop} (w_I : WD Z I) (v0 : Nat) (v1 : Int32) (v2 : Int32) (kv0 : jk Z v0 8) (v3 : Int32) (v4 : Int32) (hQ : ∀ (r : Int32), Q r I L) {K31 : Nat → Int32 → Int32 → Int32 → Int32 → jI → jL → Prop} {N31 : Int} (hK31 : ∀ (v4 : Int32),   (0 ≤ v4.toInt ∧ v4.toInt ≤ 24) → 24 - v4.toInt < N31 → K31 v0 v1 v2 v3 v4 I L) : ∀ (n : Nat) (v5 : Int32) ,   (0 ≤ v4.toInt ∧ v4.toInt ≤ 23 ∧ v4.toInt < v5.toInt ∧ v5.toInt ≤ 24) → 24 - v4.toInt ≤ N31 → 24 - v5.toInt < (n : Int) → f_X8_mindsFeud_L50 K31 Z Q n v0 v1 v2 v3 v4 v5 I L := by
  intro n
  induction n with
  | zero =>
    intro v5   li hm31 me
    exfalso
    omega
  | succ n ih =>
    intro v5   li hm31 me
    unfold f_X8_mindsFeud_L50
    have rv5 := i_rng v5
    have rv3 := i_rng v3
    have rv4 := i_rng v4
    have rv1 := i_rng v1
    have rv2 := i_rng v2
    have t2 : 0 ≤ (I v0 9).toInt ∧ (I v0 9).toInt ≤ 24 := w_I.fld 8 9 kv0 (by decide)
    refine ⟨fun c3 => ?_, fun c3 => ?_⟩
    · skip
      first | (have t4 : (I v0 9).toInt ≤ v5.toInt := (i_le rfl rfl).mp c3) | (have t4 : (I v0 9).toInt ≤ v5.toInt := (i_le rfl rfl).mp c3) | skip
      unfold f_X8_mindsFeud_b122
      intro x5 ex5
      have rx5 := i_rng x5
      first | (have tx5 : x5.toInt = v4.toInt + (1) := by (rw [ex5]; exact (i_add rfl (show (1 : Int32).toInt = 1 from rfl) (by omega) (by omega)))) | skip
      exact hK31 x5   (by omega)  (by omega)
    · skip
      first | (have t6 : ¬ ((I v0 9).toInt ≤ v5.toInt) := (not_congr (i_le rfl rfl)).mp c3) | (have t6 : ¬ ((I v0 9).toInt ≤ v5.toInt) := (not_congr (i_le rfl rfl)).mp c3) | skip
      refine ⟨fun c7 => ?_, fun c7 => ?_⟩
      · skip
        first | (have t8 : (v4.toInt + (3)) < v5.toInt := (i_lt (i_add rfl (show (3 : Int32).toInt = 3 from rfl) (by omega) (by omega)) rfl).mp c7) | (have t8 : (v4 + (3 : Int32)).toInt < v5.toInt := (i_lt rfl rfl).mp c7) | skip
        unfold f_X8_mindsFeud_b122
        intro x9 ex9
        have rx9 := i_rng x9
        first | (have tx9 : x9.toInt = v4.toInt + (1) := by (rw [ex9]; exact (i_add rfl (show (1 : Int32).toInt = 1 from rfl) (by omega) (by omega)))) | skip
        exact hK31 x9   (by omega)  (by omega)
      · skip
        first | (have t10 : ¬ ((v4.toInt + (3)) < v5.toInt) := (not_congr (i_lt (i_add rfl (show (3 : Int32).toInt = 3 from rfl) (by omega) (by omega)) rfl)).mp c7) | (have t10 : ¬ ((v4 + (3 : Int32)).toInt < v5.toInt) := (not_congr (i_lt rfl rfl)).mp c7) | skip
        intro b11 eb11
        obtain ⟨x12, ex12, kb11⟩ := sh_o w_I.1 kv0 (j := 4) (k := 4) rfl
        cases eb11.symm.trans ex12
        refine s_X4_mainOf w_I b11 v4 kb11   (fun r13 p14 => ?_)
        have rr13 := i_rng r13
        intro b15 eb15
        obtain rfl : b11 = b15 := Option.some.inj (eb11.symm.trans eb15)
        refine s_X4_mainOf w_I b11 v5 kb11   (fun r16 p17 => ?_)
        have rr16 := i_rng r16
        refine ⟨fun c18 => ?_, fun c18 => ?_⟩
        · skip
          first | (have t19 : ¬ (r13.toInt = v1.toInt) := (not_congr (i_eq rfl rfl)).mp c18) | (have t19 : ¬ (r13.toInt = v1.toInt) := (not_congr (i_eq rfl rfl)).mp c18) | skip
          unfold f_X8_mindsFeud_b102
          refine ⟨fun c20 => ?_, fun c20 => ?_⟩
          · skip
            first | (have t21 : ¬ (r13.toInt = v2.toInt) := (not_congr (i_eq rfl rfl)).mp c20) | (have t21 : ¬ (r13.toInt = v2.toInt) := (not_congr (i_eq rfl rfl)).mp c20) | skip
            unfold f_X8_mindsFeud_b116
            intro x22 ex22
            have rx22 := i_rng x22
            first | (have tx22 : x22.toInt = v5.toInt + (1) := by (rw [ex22]; exact (i_add rfl (show (1 : Int32).toInt = 1 from rfl) (by omega) (by omega)))) | skip
            exact ih x22   (by omega) (by omega) (by omega)
          · skip
            first | (have t23 : r13.toInt = v2.toInt := (i_eq rfl rfl).mp c20) | (have t23 : r13.toInt = v2.toInt := (i_eq rfl rfl).mp c20) | skip
            refine ⟨fun c24 => ?_, fun c24 => ?_⟩
            · skip
              first | (have t25 : ¬ (r16.toInt = v1.toInt) := (not_congr (i_eq rfl rfl)).mp c24) | (have t25 : ¬ (r16.toInt = v1.toInt) := (not_congr (i_eq rfl rfl)).mp c24) | skip
              unfold f_X8_mindsFeud_b116
              intro x26 ex26
              have rx26 := i_rng x26
              first | (have tx26 : x26.toInt = v5.toInt + (1) := by (rw [ex26]; exact (i_add rfl (show (1 : Int32).toInt = 1 from rfl) (by omega) (by omega)))) | skip
              exact ih x26   (by omega) (by omega) (by omega)
            · skip
              first | (have t27 : r16.toInt = v1.toInt := (i_eq rfl rfl).mp c24) | (have t27 : r16.toInt = v1.toInt := (i_eq rfl rfl).mp c24) | skip
              have t28 : (1 : Int32).toInt = 1 := rfl
              exact hQ (1 : Int32) 
        · skip
          first | (have t29 : r13.toInt = v1.toInt := (i_eq rfl rfl).mp c18) | (have t29 : r13.toInt = v1.toInt := (i_eq rfl rfl).mp c18) | skip
          refine ⟨fun c30 => ?_, fun c30 => ?_⟩
          · skip
            first | (have t31 : r16.toInt = v2.toInt := (i_eq rfl rfl).mp c30) | (have t31 : r16.toInt = v2.toInt := (i_eq rfl rfl).mp c30) | skip
            have t32 : (1 : Int32).toInt = 1 := rfl
            exact hQ (1 : Int32) 
          · skip
            first | (have t33 : ¬ (r16.toInt = v2.toInt) := (not_congr (i_eq rfl rfl)).mp c30) | (have t33 : ¬ (r16.toInt = v2.toInt) := (not_congr (i_eq rfl rfl)).mp c30) | skip
            unfold f_X8_mindsFeud_b102
            refine ⟨fun c34 => ?_, fun c34 => ?_⟩
            · skip
              first | (have t35 : ¬ (r13.toInt = v2.toInt) := (not_congr (i_eq rfl rfl)).mp c34) | (have t35 : ¬ (r13.toInt = v2.toInt) := (not_congr (i_eq rfl rfl)).mp c34) | skip
              unfold f_X8_mindsFeud_b116
              intro x36 ex36
              have rx36 := i_rng x36
              first | (have tx36 : x36.toInt = v5.toInt + (1) := by (rw [ex36]; exact (i_add rfl (show (1 : Int32).toInt = 1 from rfl) (by omega) (by omega)))) | skip
              exact ih x36   (by omega) (by omega) (by omega)
            · skip
              first | (have t37 : r13.toInt = v2.toInt := (i_eq rfl rfl).mp c34) | (have t37 : r13.toInt = v2.toInt := (i_eq rfl rfl).mp c34) | skip
              refine ⟨fun c38 => ?_, fun c38 => ?_⟩
              · skip
                first | (have t39 : ¬ (r16.toInt = v1.toInt) := (not_congr (i_eq rfl rfl)).mp c38) | (have t39 : ¬ (r16.toInt = v1.toInt) := (not_congr (i_eq rfl rfl)).mp c38) | skip
                unfold f_X8_mindsFeud_b116
                intro x40 ex40
                have rx40 := i_rng x40
                first | (have tx40 : x40.toInt = v5.toInt + (1) := by (rw [ex40]; exact (i_add rfl (show (1 : Int32).toInt = 1 from rfl) (by omega) (by omega)))) | skip
                exact ih x40   (by omega) (by omega) (by omega)
              · skip
                first | (have t41 : r16.toInt = v1.toInt := (i_eq rfl rfl).mp c38) | (have t41 : r16.toInt = v1.toInt := (i_eq rfl rfl).mp c38) | skip
                have t42 : (1 : Int32).toInt = 1 := rfl
                exact hQ (1 : Int32) 
set_option maxHeartbeats 4000000 in
set_option maxRecDepth 100000 in
theorem l_X8_mindsFeud_L31 {Z : jZ} {I : jI} {L : jL} {Q : Int32 → jI → jL → Prop} (w_I : WD Z I) (v0 : Nat) (v1 : Int32) (v2 : Int32) (kv0 : jk Z v0 8) (v3 : Int32) (hQ : ∀ (r : Int32), Q r I L) : ∀ (n : Nat) (v4 : Int32) ,   (0 ≤ v4.toInt ∧ v4.toInt ≤ 24) → 24 - v4.toInt < (n : Int) → f_X8_mindsFeud_L31  Z Q n v0 v1 v2 v3 v4 I L := by
  intro n
  induction n with
  | zero =>
    intro v4   li  me
    exfalso
    omega
  | succ n ih =>
    intro v4   li  me
    unfold f_X8_mindsFeud_L31
    have rv4 := i_rng v4
    have rv3 := i_rng v3
    have rv1 := i_rng v1
    have rv2 := i_rng v2
    have t44 : 0 ≤ (I v0 9).toInt ∧ (I v0 9).toInt ≤ 24 := w_I.fld 8 9 kv0 (by decide)
    refine ⟨fun c45 => ?_, fun c45 => ?_⟩
    · skip
      first | (have t46 : (I v0 9).toInt ≤ v4.toInt := (i_le rfl rfl).mp c45) | (have t46 : (I v0 9).toInt ≤ v4.toInt := (i_le rfl rfl).mp c45) | skip
      have t47 : (0 : Int32).toInt = 0 := rfl
      exact hQ (0 : Int32) 
    · skip
      first | (have t48 : ¬ ((I v0 9).toInt ≤ v4.toInt) := (not_congr (i_le rfl rfl)).mp c45) | (have t48 : ¬ ((I v0 9).toInt ≤ v4.toInt) := (not_congr (i_le rfl rfl)).mp c45) | skip
      refine ⟨fun c49 => ?_, fun c49 => ?_⟩
      · skip
        first | (have t50 : v3.toInt = (0) := (i_eq rfl (show (0 : Int32).toInt = 0 from rfl)).mp c49) | (have t50 : v3.toInt = (0 : Int32).toInt := (i_eq rfl rfl).mp c49) | skip
        have t51 : (0 : Int32).toInt = 0 := rfl
        exact hQ (0 : Int32) 
      · skip
        first | (have t52 : ¬ (v3.toInt = (0)) := (not_congr (i_eq rfl (show (0 : Int32).toInt = 0 from rfl))).mp c49) | (have t52 : ¬ (v3.toInt = (0 : Int32).toInt) := (not_congr (i_eq rfl rfl)).mp c49) | skip
        intro x53 ex53
        have rx53 := i_rng x53
        first | (have tx53 : x53.toInt = (v4.toInt + (1)) := by (rw [ex53]; exact (i_add rfl (show (1 : Int32).toInt = 1 from rfl) (by omega) (by omega)))) | (have tx53 : x53.toInt = (v4 + (1 : Int32)).toInt := by rw [ex53])
        exact ⟨(24 - x53.toInt).toNat + 1, l_X8_mindsFeud_L50 w_I v0 v1 v2 kv0 v3 v4  hQ ih  _ x53   (by omega) (by omega) (by omega)⟩
set_option maxHeartbeats 4000000 in
set_option maxRecDepth 100000 in
theorem s_X8_mindsFeud {Z : jZ} {I : jI} {L : jL} (w_I : WD Z I) (v0 : Nat) (v1 : Int32) (v2 : Int32) (kv0 : jk Z v0 8) {Q : Int32 → jI → jL → Prop} (hQ : ∀ (r : Int32), Q r I L) : f_X8_mindsFeud v0 v1 v2 Z I L Q := by
  unfold f_X8_mindsFeud
  have rv1 := i_rng v1
  have rv2 := i_rng v2
  intro b54 eb54
  obtain ⟨x55, ex55, kb54⟩ := sh_o w_I.1 kv0 (j := 6) (k := 3) rfl
  cases eb54.symm.trans ex55
  have t56 : (4 : Int32).toInt = 4 := rfl
  refine s_X3_names w_I b54 (4 : Int32) kb54   (fun r57  => ?_)
  have rr57 := i_rng r57
  refine ⟨fun c58 => ?_, fun c58 => ?_⟩
  · skip
    first | (have t59 : ¬ (r57.toInt = (0)) := (not_congr (i_eq rfl (show (0 : Int32).toInt = 0 from rfl))).mp c58) | (have t59 : ¬ (r57.toInt = (0 : Int32).toInt) := (not_congr (i_eq rfl rfl)).mp c58) | skip
    unfold f_X8_mindsFeud_b22
    unfold f_X8_mindsFeud_b27
    have t60 : (1 : Int32).toInt = 1 := rfl
    have t61 : (0 : Int32).toInt = 0 := rfl
    exact ⟨(24 - (0 : Int32).toInt).toNat + 1, l_X8_mindsFeud_L31 w_I v0 v1 v2 kv0 (1 : Int32)  hQ   _ (0 : Int32)   (by omega)  (by omega)⟩
  · skip
    first | (have t62 : r57.toInt = (0) := (i_eq rfl (show (0 : Int32).toInt = 0 from rfl)).mp c58) | (have t62 : r57.toInt = (0 : Int32).toInt := (i_eq rfl rfl).mp c58) | skip
    intro b63 eb63
    obtain ⟨x64, ex64, kb63⟩ := sh_o w_I.1 kv0 (j := 7) (k := 3) rfl
    cases eb63.symm.trans ex64
    have t65 : (4 : Int32).toInt = 4 := rfl
    refine s_X3_names w_I b63 (4 : Int32) kb63   (fun r66  => ?_)
    have rr66 := i_rng r66
    refine ⟨fun c67 => ?_, fun c67 => ?_⟩
    · skip
      first | (have t68 : r66.toInt = (0) := (i_eq rfl (show (0 : Int32).toInt = 0 from rfl)).mp c67) | (have t68 : r66.toInt = (0 : Int32).toInt := (i_eq rfl rfl).mp c67) | skip
      unfold f_X8_mindsFeud_b27
      have t69 : (0 : Int32).toInt = 0 := rfl
      have t70 : (0 : Int32).toInt = 0 := rfl
      exact ⟨(24 - (0 : Int32).toInt).toNat + 1, l_X8_mindsFeud_L31 w_I v0 v1 v2 kv0 (0 : Int32)  hQ   _ (0 : Int32)   (by omega)  (by omega)⟩
    · skip
      first | (have t71 : ¬ (r66.toInt = (0)) := (not_congr (i_eq rfl (show (0 : Int32).toInt = 0 from rfl))).mp c67) | (have t71 : ¬ (r66.toInt = (0 : Int32).toInt) := (not_congr (i_eq rfl rfl)).mp c67) | skip
      unfold f_X8_mindsFeud_b22
      unfold f_X8_mindsFeud_b27
      have t72 : (1 : Int32).toInt = 1 := rfl
      have t73 : (0 : Int32).toInt = 0 := rfl
      exact ⟨(24 - (0 : Int32).toInt).toNat + 1, l_X8_mindsFeud_L31 w_I v0 v1 v2 kv0 (1 : Int32)  hQ   _ (0 : Int32)   (by omega)  (by omega)⟩
def Ws_X9_fail : List (Nat × Nat) := [(9, 8)]
set_option maxHeartbeats 4000000 in
set_option maxRecDepth 100000 in
theorem s_X9_fail {Z : jZ} {I : jI} {L : jL} (w_I : WD Z I) (v0 : Nat) (v1 : Int32) (kv0 : jk Z v0 9) {Q : Int32 → jI → jL → Prop} (hQ : ∀ (r : Int32) (I' : jI) (L' : jL), WD Z I' → FR Ws_X9_fail Z I Z I' → Q r I' L') : f_X9_fail v0 v1 Z I L Q := by
  unfold f_X9_fail
  have q_I : FR Ws_X9_fail Z I Z I := FR.rf
  have rv1 := i_rng v1
  intro I1 eI1
  have w_I1 : WD Z I1 := by rw [eI1]; exact WD_putF w_I 9 8 kv0 (by decide) (by decide) trivial
  have f_I1 : FR [(9, 8)] Z I Z I1 := by rw [eI1]; exact FR_putF kv0 (by decide) List.mem_cons_self
  have q_I1 : FR Ws_X9_fail Z I Z I1 := q_I.trans w_I.1 w_I.2.1 (f_I1.mono (by decide))
  first | (have u2 : (I1 v0 8).toInt = v1.toInt := by (rw [eI1, show jpI I v0 8 v1 v0 8 = v1 from jpI_at] <;> exact rfl)) | skip
  have t3 : (0 : Int32).toInt = 0 := rfl
  exact hQ (0 : Int32) I1 L w_I1 q_I1 
set_option maxHeartbeats 4000000 in
set_option maxRecDepth 100000 in
theorem s_X9_look {Z : jZ} {I : jI} {L : jL} (w_I : WD Z I) (v0 : Nat) (v1 : Nat) (kv0 : jk Z v0 9) (kv1 : jk Z v1 10) {Q : Int32 → jI → jL → Prop} (hQ : ∀ (r : Int32), (-1 ≤ r.toInt ∧ r.toInt ≤ 255) → Q r I L) : f_X9_look v0 v1 Z I L Q := by
  unfold f_X9_look
  refine ⟨fun c1 => ?_, fun c1 => ?_⟩
  · skip
    first | (have t2 : (I v0 7).toInt ≤ (I v0 6).toInt := (i_le rfl rfl).mp c1) | (have t2 : (I v0 7).toInt ≤ (I v0 6).toInt := (i_le rfl rfl).mp c1) | skip
    have t3 : (-1 : Int32).toInt = -1 := rfl
    exact hQ (-1 : Int32) (by omega)
  · skip
    first | (have t4 : ¬ ((I v0 7).toInt ≤ (I v0 6).toInt) := (not_congr (i_le rfl rfl)).mp c1) | (have t4 : ¬ ((I v0 7).toInt ≤ (I v0 6).toInt) := (not_congr (i_le rfl rfl)).mp c1) | skip
    refine s_X10_signAt w_I v1 (I v0 6) kv1   (fun r5 p6 => ?_)
    have rr5 := i_rng r5
    exact hQ r5 (by omega)
def Ws_X9_readNumber : List (Nat × Nat) := [(9, 6), (9, 8)]
set_option maxHeartbeats 4000000 in
set_option maxRecDepth 100000 in
theorem l_X9_readNumber_L6 {Z : jZ} {I0 : jI} {Q : Int32 → jI → jL → Prop} (w0 : WD Z I0) (v0 : Nat) (v1 : Nat) (v2 : Int32) (v3 : Int32) (kv0 : jk Z v0 9) (kv1 : jk Z v1 10) (hQ : ∀ (r : Int32) (I' : jI) (L' : jL), WD Z I' → FR Ws_X9_readNumber Z I0 Z I' → (r.toInt = -1 ∨ (v2.toInt ≤ r.toInt ∧ r.toInt ≤ v3.toInt)) → Q r I' L') : ∀ (n : Nat) (v4 : Int32) (v5 : Int32) (I : jI) (L : jL), WD Z I → FR Ws_X9_readNumber Z I0 Z I →   (0 ≤ v5.toInt ∧ v5.toInt ≤ 2) → 2 - v5.toInt < (n : Int) → f_X9_readNumber_L6  Z Q n v0 v1 v2 v3 v4 v5 I L := by
  intro n
  induction n with
  | zero =>
    intro v4 v5 I L w_I q_I   li  me
    exfalso
    omega
  | succ n ih =>
    intro v4 v5 I L w_I q_I   li  me
    unfold f_X9_readNumber_L6
    have rv4 := i_rng v4
    have rv5 := i_rng v5
    have rv2 := i_rng v2
    have rv3 := i_rng v3
    refine ⟨fun c1 => ?_, fun c1 => ?_⟩
    · skip
      first | (have t2 : (2) ≤ v5.toInt := (i_le (show (2 : Int32).toInt = 2 from rfl) rfl).mp c1) | (have t2 : (2 : Int32).toInt ≤ v5.toInt := (i_le rfl rfl).mp c1) | skip
      unfold f_X9_readNumber_b55
      refine ⟨fun c3 => ?_, fun c3 => ?_⟩
      · skip
        first | (have t4 : v5.toInt ≤ (0) := (i_le rfl (show (0 : Int32).toInt = 0 from rfl)).mp c3) | (have t4 : v5.toInt ≤ (0 : Int32).toInt := (i_le rfl rfl).mp c3) | skip
        unfold f_X9_readNumber_b76
        unfold f_X9_readNumber_b77
        refine ⟨fun c5 => ?_, fun c5 => ?_⟩
        · skip
          first | (have t6 : ¬ ((0) = (0)) := (not_congr (i_eq (show (0 : Int32).toInt = 0 from rfl) (show (0 : Int32).toInt = 0 from rfl))).mp c5) | (have t6 : ¬ ((0 : Int32).toInt = (0 : Int32).toInt) := (not_congr (i_eq rfl rfl)).mp c5) | skip
          unfold f_X9_readNumber_b107
          refine ⟨fun c7 => ?_, fun c7 => ?_⟩
          · skip
            first | (have t8 : (0) = (0) := (i_eq (show (0 : Int32).toInt = 0 from rfl) (show (0 : Int32).toInt = 0 from rfl)).mp c7) | (have t8 : (0 : Int32).toInt = (0 : Int32).toInt := (i_eq rfl rfl).mp c7) | skip
            have t9 : (-1 : Int32).toInt = -1 := rfl
            exact hQ (-1 : Int32) I L w_I q_I (by omega)
          · skip
            first | (have t10 : ¬ ((0) = (0)) := (not_congr (i_eq (show (0 : Int32).toInt = 0 from rfl) (show (0 : Int32).toInt = 0 from rfl))).mp c7) | (have t10 : ¬ ((0 : Int32).toInt = (0 : Int32).toInt) := (not_congr (i_eq rfl rfl)).mp c7) | skip
            exact hQ v4 I L w_I q_I (by omega)
        · skip
          first | (have t11 : (0) = (0) := (i_eq (show (0 : Int32).toInt = 0 from rfl) (show (0 : Int32).toInt = 0 from rfl)).mp c5) | (have t11 : (0 : Int32).toInt = (0 : Int32).toInt := (i_eq rfl rfl).mp c5) | skip
          refine ⟨fun c12 => ?_, fun c12 => ?_⟩
          · skip
            first | (have t13 : ¬ (v5.toInt = (0)) := (not_congr (i_eq rfl (show (0 : Int32).toInt = 0 from rfl))).mp c12) | (have t13 : ¬ (v5.toInt = (0 : Int32).toInt) := (not_congr (i_eq rfl rfl)).mp c12) | skip
            unfold f_X9_readNumber_b103
            try (have t14 : ((I v0 6) - (1 : Int32)).toInt = ((I v0 6).toInt - (1)) := (i_sub rfl (show (1 : Int32).toInt = 1 from rfl) (by omega) (by omega)))
            refine s_X9_fail w_I v0 ((I v0 6) - (1 : Int32)) kv0   (fun r15 I16 L17 w_I16 f_I16  => ?_)
            have q_I16 : FR Ws_X9_readNumber Z I0 Z I16 := q_I.trans w0.1 w0.2.1 (f_I16.mono (by decide))
            have u18 : (I16 v0 6).toInt = (I v0 6).toInt := by rw [f_I16.2.2.1 v0 9 6 kv0 (by decide) (by decide)]
            have rr15 := i_rng r15
            unfold f_X9_readNumber_b107
            refine ⟨fun c19 => ?_, fun c19 => ?_⟩
            · skip
              first | (have t20 : (0) = (0) := (i_eq (show (0 : Int32).toInt = 0 from rfl) (show (0 : Int32).toInt = 0 from rfl)).mp c19) | (have t20 : (0 : Int32).toInt = (0 : Int32).toInt := (i_eq rfl rfl).mp c19) | skip
              have t21 : (-1 : Int32).toInt = -1 := rfl
              exact hQ (-1 : Int32) I16 L17 w_I16 q_I16 (by omega)
            · skip
              first | (have t22 : ¬ ((0) = (0)) := (not_congr (i_eq (show (0 : Int32).toInt = 0 from rfl) (show (0 : Int32).toInt = 0 from rfl))).mp c19) | (have t22 : ¬ ((0 : Int32).toInt = (0 : Int32).toInt) := (not_congr (i_eq rfl rfl)).mp c19) | skip
              exact hQ v4 I16 L17 w_I16 q_I16 (by omega)
          · skip
            first | (have t23 : v5.toInt = (0) := (i_eq rfl (show (0 : Int32).toInt = 0 from rfl)).mp c12) | (have t23 : v5.toInt = (0 : Int32).toInt := (i_eq rfl rfl).mp c12) | skip
            unfold f_X9_readNumber_b103
            refine s_X9_fail w_I v0 (I v0 6) kv0   (fun r24 I25 L26 w_I25 f_I25  => ?_)
            have q_I25 : FR Ws_X9_readNumber Z I0 Z I25 := q_I.trans w0.1 w0.2.1 (f_I25.mono (by decide))
            have u27 : (I25 v0 6).toInt = (I v0 6).toInt := by rw [f_I25.2.2.1 v0 9 6 kv0 (by decide) (by decide)]
            have rr24 := i_rng r24
            unfold f_X9_readNumber_b107
            refine ⟨fun c28 => ?_, fun c28 => ?_⟩
            · skip
              first | (have t29 : (0) = (0) := (i_eq (show (0 : Int32).toInt = 0 from rfl) (show (0 : Int32).toInt = 0 from rfl)).mp c28) | (have t29 : (0 : Int32).toInt = (0 : Int32).toInt := (i_eq rfl rfl).mp c28) | skip
              have t30 : (-1 : Int32).toInt = -1 := rfl
              exact hQ (-1 : Int32) I25 L26 w_I25 q_I25 (by omega)
            · skip
              first | (have t31 : ¬ ((0) = (0)) := (not_congr (i_eq (show (0 : Int32).toInt = 0 from rfl) (show (0 : Int32).toInt = 0 from rfl))).mp c28) | (have t31 : ¬ ((0 : Int32).toInt = (0 : Int32).toInt) := (not_congr (i_eq rfl rfl)).mp c28) | skip
              exact hQ v4 I25 L26 w_I25 q_I25 (by omega)
      · skip
        first | (have t32 : ¬ (v5.toInt ≤ (0)) := (not_congr (i_le rfl (show (0 : Int32).toInt = 0 from rfl))).mp c3) | (have t32 : ¬ (v5.toInt ≤ (0 : Int32).toInt) := (not_congr (i_le rfl rfl)).mp c3) | skip
        refine ⟨fun c33 => ?_, fun c33 => ?_⟩
        · skip
          first | (have t34 : v4.toInt < v2.toInt := (i_lt rfl rfl).mp c33) | (have t34 : v4.toInt < v2.toInt := (i_lt rfl rfl).mp c33) | skip
          unfold f_X9_readNumber_b76
          unfold f_X9_readNumber_b77
          refine ⟨fun c35 => ?_, fun c35 => ?_⟩
          · skip
            first | (have t36 : ¬ ((0) = (0)) := (not_congr (i_eq (show (0 : Int32).toInt = 0 from rfl) (show (0 : Int32).toInt = 0 from rfl))).mp c35) | (have t36 : ¬ ((0 : Int32).toInt = (0 : Int32).toInt) := (not_congr (i_eq rfl rfl)).mp c35) | skip
            unfold f_X9_readNumber_b107
            refine ⟨fun c37 => ?_, fun c37 => ?_⟩
            · skip
              first | (have t38 : (0) = (0) := (i_eq (show (0 : Int32).toInt = 0 from rfl) (show (0 : Int32).toInt = 0 from rfl)).mp c37) | (have t38 : (0 : Int32).toInt = (0 : Int32).toInt := (i_eq rfl rfl).mp c37) | skip
              have t39 : (-1 : Int32).toInt = -1 := rfl
              exact hQ (-1 : Int32) I L w_I q_I (by omega)
            · skip
              first | (have t40 : ¬ ((0) = (0)) := (not_congr (i_eq (show (0 : Int32).toInt = 0 from rfl) (show (0 : Int32).toInt = 0 from rfl))).mp c37) | (have t40 : ¬ ((0 : Int32).toInt = (0 : Int32).toInt) := (not_congr (i_eq rfl rfl)).mp c37) | skip
              exact hQ v4 I L w_I q_I (by omega)
          · skip
            first | (have t41 : (0) = (0) := (i_eq (show (0 : Int32).toInt = 0 from rfl) (show (0 : Int32).toInt = 0 from rfl)).mp c35) | (have t41 : (0 : Int32).toInt = (0 : Int32).toInt := (i_eq rfl rfl).mp c35) | skip
            refine ⟨fun c42 => ?_, fun c42 => ?_⟩
            · skip
              first | (have t43 : ¬ (v5.toInt = (0)) := (not_congr (i_eq rfl (show (0 : Int32).toInt = 0 from rfl))).mp c42) | (have t43 : ¬ (v5.toInt = (0 : Int32).toInt) := (not_congr (i_eq rfl rfl)).mp c42) | skip
              unfold f_X9_readNumber_b103
              try (have t44 : ((I v0 6) - (1 : Int32)).toInt = ((I v0 6).toInt - (1)) := (i_sub rfl (show (1 : Int32).toInt = 1 from rfl) (by omega) (by omega)))
              refine s_X9_fail w_I v0 ((I v0 6) - (1 : Int32)) kv0   (fun r45 I46 L47 w_I46 f_I46  => ?_)
              have q_I46 : FR Ws_X9_readNumber Z I0 Z I46 := q_I.trans w0.1 w0.2.1 (f_I46.mono (by decide))
              have u48 : (I46 v0 6).toInt = (I v0 6).toInt := by rw [f_I46.2.2.1 v0 9 6 kv0 (by decide) (by decide)]
              have rr45 := i_rng r45
              unfold f_X9_readNumber_b107
              refine ⟨fun c49 => ?_, fun c49 => ?_⟩
              · skip
                first | (have t50 : (0) = (0) := (i_eq (show (0 : Int32).toInt = 0 from rfl) (show (0 : Int32).toInt = 0 from rfl)).mp c49) | (have t50 : (0 : Int32).toInt = (0 : Int32).toInt := (i_eq rfl rfl).mp c49) | skip
                have t51 : (-1 : Int32).toInt = -1 := rfl
                exact hQ (-1 : Int32) I46 L47 w_I46 q_I46 (by omega)
              · skip
                first | (have t52 : ¬ ((0) = (0)) := (not_congr (i_eq (show (0 : Int32).toInt = 0 from rfl) (show (0 : Int32).toInt = 0 from rfl))).mp c49) | (have t52 : ¬ ((0 : Int32).toInt = (0 : Int32).toInt) := (not_congr (i_eq rfl rfl)).mp c49) | skip
                exact hQ v4 I46 L47 w_I46 q_I46 (by omega)
            · skip
              first | (have t53 : v5.toInt = (0) := (i_eq rfl (show (0 : Int32).toInt = 0 from rfl)).mp c42) | (have t53 : v5.toInt = (0 : Int32).toInt := (i_eq rfl rfl).mp c42) | skip
              unfold f_X9_readNumber_b103
              refine s_X9_fail w_I v0 (I v0 6) kv0   (fun r54 I55 L56 w_I55 f_I55  => ?_)
              have q_I55 : FR Ws_X9_readNumber Z I0 Z I55 := q_I.trans w0.1 w0.2.1 (f_I55.mono (by decide))
              have u57 : (I55 v0 6).toInt = (I v0 6).toInt := by rw [f_I55.2.2.1 v0 9 6 kv0 (by decide) (by decide)]
              have rr54 := i_rng r54
              unfold f_X9_readNumber_b107
              refine ⟨fun c58 => ?_, fun c58 => ?_⟩
              · skip
                first | (have t59 : (0) = (0) := (i_eq (show (0 : Int32).toInt = 0 from rfl) (show (0 : Int32).toInt = 0 from rfl)).mp c58) | (have t59 : (0 : Int32).toInt = (0 : Int32).toInt := (i_eq rfl rfl).mp c58) | skip
                have t60 : (-1 : Int32).toInt = -1 := rfl
                exact hQ (-1 : Int32) I55 L56 w_I55 q_I55 (by omega)
              · skip
                first | (have t61 : ¬ ((0) = (0)) := (not_congr (i_eq (show (0 : Int32).toInt = 0 from rfl) (show (0 : Int32).toInt = 0 from rfl))).mp c58) | (have t61 : ¬ ((0 : Int32).toInt = (0 : Int32).toInt) := (not_congr (i_eq rfl rfl)).mp c58) | skip
                exact hQ v4 I55 L56 w_I55 q_I55 (by omega)
        · skip
          first | (have t62 : ¬ (v4.toInt < v2.toInt) := (not_congr (i_lt rfl rfl)).mp c33) | (have t62 : ¬ (v4.toInt < v2.toInt) := (not_congr (i_lt rfl rfl)).mp c33) | skip
          refine ⟨fun c63 => ?_, fun c63 => ?_⟩
          · skip
            first | (have t64 : v3.toInt < v4.toInt := (i_lt rfl rfl).mp c63) | (have t64 : v3.toInt < v4.toInt := (i_lt rfl rfl).mp c63) | skip
            unfold f_X9_readNumber_b76
            unfold f_X9_readNumber_b77
            refine ⟨fun c65 => ?_, fun c65 => ?_⟩
            · skip
              first | (have t66 : ¬ ((0) = (0)) := (not_congr (i_eq (show (0 : Int32).toInt = 0 from rfl) (show (0 : Int32).toInt = 0 from rfl))).mp c65) | (have t66 : ¬ ((0 : Int32).toInt = (0 : Int32).toInt) := (not_congr (i_eq rfl rfl)).mp c65) | skip
              unfold f_X9_readNumber_b107
              refine ⟨fun c67 => ?_, fun c67 => ?_⟩
              · skip
                first | (have t68 : (0) = (0) := (i_eq (show (0 : Int32).toInt = 0 from rfl) (show (0 : Int32).toInt = 0 from rfl)).mp c67) | (have t68 : (0 : Int32).toInt = (0 : Int32).toInt := (i_eq rfl rfl).mp c67) | skip
                have t69 : (-1 : Int32).toInt = -1 := rfl
                exact hQ (-1 : Int32) I L w_I q_I (by omega)
              · skip
                first | (have t70 : ¬ ((0) = (0)) := (not_congr (i_eq (show (0 : Int32).toInt = 0 from rfl) (show (0 : Int32).toInt = 0 from rfl))).mp c67) | (have t70 : ¬ ((0 : Int32).toInt = (0 : Int32).toInt) := (not_congr (i_eq rfl rfl)).mp c67) | skip
                exact hQ v4 I L w_I q_I (by omega)
            · skip
              first | (have t71 : (0) = (0) := (i_eq (show (0 : Int32).toInt = 0 from rfl) (show (0 : Int32).toInt = 0 from rfl)).mp c65) | (have t71 : (0 : Int32).toInt = (0 : Int32).toInt := (i_eq rfl rfl).mp c65) | skip
              refine ⟨fun c72 => ?_, fun c72 => ?_⟩
              · skip
                first | (have t73 : ¬ (v5.toInt = (0)) := (not_congr (i_eq rfl (show (0 : Int32).toInt = 0 from rfl))).mp c72) | (have t73 : ¬ (v5.toInt = (0 : Int32).toInt) := (not_congr (i_eq rfl rfl)).mp c72) | skip
                unfold f_X9_readNumber_b103
                try (have t74 : ((I v0 6) - (1 : Int32)).toInt = ((I v0 6).toInt - (1)) := (i_sub rfl (show (1 : Int32).toInt = 1 from rfl) (by omega) (by omega)))
                refine s_X9_fail w_I v0 ((I v0 6) - (1 : Int32)) kv0   (fun r75 I76 L77 w_I76 f_I76  => ?_)
                have q_I76 : FR Ws_X9_readNumber Z I0 Z I76 := q_I.trans w0.1 w0.2.1 (f_I76.mono (by decide))
                have u78 : (I76 v0 6).toInt = (I v0 6).toInt := by rw [f_I76.2.2.1 v0 9 6 kv0 (by decide) (by decide)]
                have rr75 := i_rng r75
                unfold f_X9_readNumber_b107
                refine ⟨fun c79 => ?_, fun c79 => ?_⟩
                · skip
                  first | (have t80 : (0) = (0) := (i_eq (show (0 : Int32).toInt = 0 from rfl) (show (0 : Int32).toInt = 0 from rfl)).mp c79) | (have t80 : (0 : Int32).toInt = (0 : Int32).toInt := (i_eq rfl rfl).mp c79) | skip
                  have t81 : (-1 : Int32).toInt = -1 := rfl
                  exact hQ (-1 : Int32) I76 L77 w_I76 q_I76 (by omega)
                · skip
                  first | (have t82 : ¬ ((0) = (0)) := (not_congr (i_eq (show (0 : Int32).toInt = 0 from rfl) (show (0 : Int32).toInt = 0 from rfl))).mp c79) | (have t82 : ¬ ((0 : Int32).toInt = (0 : Int32).toInt) := (not_congr (i_eq rfl rfl)).mp c79) | skip
                  exact hQ v4 I76 L77 w_I76 q_I76 (by omega)
              · skip
                first | (have t83 : v5.toInt = (0) := (i_eq rfl (show (0 : Int32).toInt = 0 from rfl)).mp c72) | (have t83 : v5.toInt = (0 : Int32).toInt := (i_eq rfl rfl).mp c72) | skip
                unfold f_X9_readNumber_b103
                refine s_X9_fail w_I v0 (I v0 6) kv0   (fun r84 I85 L86 w_I85 f_I85  => ?_)
                have q_I85 : FR Ws_X9_readNumber Z I0 Z I85 := q_I.trans w0.1 w0.2.1 (f_I85.mono (by decide))
                have u87 : (I85 v0 6).toInt = (I v0 6).toInt := by rw [f_I85.2.2.1 v0 9 6 kv0 (by decide) (by decide)]
                have rr84 := i_rng r84
                unfold f_X9_readNumber_b107
                refine ⟨fun c88 => ?_, fun c88 => ?_⟩
                · skip
                  first | (have t89 : (0) = (0) := (i_eq (show (0 : Int32).toInt = 0 from rfl) (show (0 : Int32).toInt = 0 from rfl)).mp c88) | (have t89 : (0 : Int32).toInt = (0 : Int32).toInt := (i_eq rfl rfl).mp c88) | skip
                  have t90 : (-1 : Int32).toInt = -1 := rfl
                  exact hQ (-1 : Int32) I85 L86 w_I85 q_I85 (by omega)
                · skip
                  first | (have t91 : ¬ ((0) = (0)) := (not_congr (i_eq (show (0 : Int32).toInt = 0 from rfl) (show (0 : Int32).toInt = 0 from rfl))).mp c88) | (have t91 : ¬ ((0 : Int32).toInt = (0 : Int32).toInt) := (not_congr (i_eq rfl rfl)).mp c88) | skip
                  exact hQ v4 I85 L86 w_I85 q_I85 (by omega)
          · skip
            first | (have t92 : ¬ (v3.toInt < v4.toInt) := (not_congr (i_lt rfl rfl)).mp c63) | (have t92 : ¬ (v3.toInt < v4.toInt) := (not_congr (i_lt rfl rfl)).mp c63) | skip
            unfold f_X9_readNumber_b77
            refine ⟨fun c93 => ?_, fun c93 => ?_⟩
            · skip
              first | (have t94 : ¬ ((1) = (0)) := (not_congr (i_eq (show (1 : Int32).toInt = 1 from rfl) (show (0 : Int32).toInt = 0 from rfl))).mp c93) | (have t94 : ¬ ((1 : Int32).toInt = (0 : Int32).toInt) := (not_congr (i_eq rfl rfl)).mp c93) | skip
              unfold f_X9_readNumber_b107
              refine ⟨fun c95 => ?_, fun c95 => ?_⟩
              · skip
                first | (have t96 : (1) = (0) := (i_eq (show (1 : Int32).toInt = 1 from rfl) (show (0 : Int32).toInt = 0 from rfl)).mp c95) | (have t96 : (1 : Int32).toInt = (0 : Int32).toInt := (i_eq rfl rfl).mp c95) | skip
                have t97 : (-1 : Int32).toInt = -1 := rfl
                exact hQ (-1 : Int32) I L w_I q_I (by omega)
              · skip
                first | (have t98 : ¬ ((1) = (0)) := (not_congr (i_eq (show (1 : Int32).toInt = 1 from rfl) (show (0 : Int32).toInt = 0 from rfl))).mp c95) | (have t98 : ¬ ((1 : Int32).toInt = (0 : Int32).toInt) := (not_congr (i_eq rfl rfl)).mp c95) | skip
                exact hQ v4 I L w_I q_I (by omega)
            · skip
              first | (have t99 : (1) = (0) := (i_eq (show (1 : Int32).toInt = 1 from rfl) (show (0 : Int32).toInt = 0 from rfl)).mp c93) | (have t99 : (1 : Int32).toInt = (0 : Int32).toInt := (i_eq rfl rfl).mp c93) | skip
              refine ⟨fun c100 => ?_, fun c100 => ?_⟩
              · skip
                first | (have t101 : ¬ (v5.toInt = (0)) := (not_congr (i_eq rfl (show (0 : Int32).toInt = 0 from rfl))).mp c100) | (have t101 : ¬ (v5.toInt = (0 : Int32).toInt) := (not_congr (i_eq rfl rfl)).mp c100) | skip
                unfold f_X9_readNumber_b103
                try (have t102 : ((I v0 6) - (1 : Int32)).toInt = ((I v0 6).toInt - (1)) := (i_sub rfl (show (1 : Int32).toInt = 1 from rfl) (by omega) (by omega)))
                refine s_X9_fail w_I v0 ((I v0 6) - (1 : Int32)) kv0   (fun r103 I104 L105 w_I104 f_I104  => ?_)
                have q_I104 : FR Ws_X9_readNumber Z I0 Z I104 := q_I.trans w0.1 w0.2.1 (f_I104.mono (by decide))
                have u106 : (I104 v0 6).toInt = (I v0 6).toInt := by rw [f_I104.2.2.1 v0 9 6 kv0 (by decide) (by decide)]
                have rr103 := i_rng r103
                unfold f_X9_readNumber_b107
                refine ⟨fun c107 => ?_, fun c107 => ?_⟩
                · skip
                  first | (have t108 : (1) = (0) := (i_eq (show (1 : Int32).toInt = 1 from rfl) (show (0 : Int32).toInt = 0 from rfl)).mp c107) | (have t108 : (1 : Int32).toInt = (0 : Int32).toInt := (i_eq rfl rfl).mp c107) | skip
                  have t109 : (-1 : Int32).toInt = -1 := rfl
                  exact hQ (-1 : Int32) I104 L105 w_I104 q_I104 (by omega)
                · skip
                  first | (have t110 : ¬ ((1) = (0)) := (not_congr (i_eq (show (1 : Int32).toInt = 1 from rfl) (show (0 : Int32).toInt = 0 from rfl))).mp c107) | (have t110 : ¬ ((1 : Int32).toInt = (0 : Int32).toInt) := (not_congr (i_eq rfl rfl)).mp c107) | skip
                  exact hQ v4 I104 L105 w_I104 q_I104 (by omega)
              · skip
                first | (have t111 : v5.toInt = (0) := (i_eq rfl (show (0 : Int32).toInt = 0 from rfl)).mp c100) | (have t111 : v5.toInt = (0 : Int32).toInt := (i_eq rfl rfl).mp c100) | skip
                unfold f_X9_readNumber_b103
                refine s_X9_fail w_I v0 (I v0 6) kv0   (fun r112 I113 L114 w_I113 f_I113  => ?_)
                have q_I113 : FR Ws_X9_readNumber Z I0 Z I113 := q_I.trans w0.1 w0.2.1 (f_I113.mono (by decide))
                have u115 : (I113 v0 6).toInt = (I v0 6).toInt := by rw [f_I113.2.2.1 v0 9 6 kv0 (by decide) (by decide)]
                have rr112 := i_rng r112
                unfold f_X9_readNumber_b107
                refine ⟨fun c116 => ?_, fun c116 => ?_⟩
                · skip
                  first | (have t117 : (1) = (0) := (i_eq (show (1 : Int32).toInt = 1 from rfl) (show (0 : Int32).toInt = 0 from rfl)).mp c116) | (have t117 : (1 : Int32).toInt = (0 : Int32).toInt := (i_eq rfl rfl).mp c116) | skip
                  have t118 : (-1 : Int32).toInt = -1 := rfl
                  exact hQ (-1 : Int32) I113 L114 w_I113 q_I113 (by omega)
                · skip
                  first | (have t119 : ¬ ((1) = (0)) := (not_congr (i_eq (show (1 : Int32).toInt = 1 from rfl) (show (0 : Int32).toInt = 0 from rfl))).mp c116) | (have t119 : ¬ ((1 : Int32).toInt = (0 : Int32).toInt) := (not_congr (i_eq rfl rfl)).mp c116) | skip
                  exact hQ v4 I113 L114 w_I113 q_I113 (by omega)
    · skip
      first | (have t120 : ¬ ((2) ≤ v5.toInt) := (not_congr (i_le (show (2 : Int32).toInt = 2 from rfl) rfl)).mp c1) | (have t120 : ¬ ((2 : Int32).toInt ≤ v5.toInt) := (not_congr (i_le rfl rfl)).mp c1) | skip
      refine s_X9_look w_I v0 v1 kv0 kv1   (fun r121 p122 => ?_)
      have rr121 := i_rng r121
      refine s_X10_isDigit w_I r121    (fun r123 p124 => ?_)
      have rr123 := i_rng r123
      refine ⟨fun c125 => ?_, fun c125 => ?_⟩
      · skip
        first | (have t126 : r123.toInt = (0) := (i_eq rfl (show (0 : Int32).toInt = 0 from rfl)).mp c125) | (have t126 : r123.toInt = (0 : Int32).toInt := (i_eq rfl rfl).mp c125) | skip
        unfold f_X9_readNumber_b55
        refine ⟨fun c127 => ?_, fun c127 => ?_⟩
        · skip
          first | (have t128 : v5.toInt ≤ (0) := (i_le rfl (show (0 : Int32).toInt = 0 from rfl)).mp c127) | (have t128 : v5.toInt ≤ (0 : Int32).toInt := (i_le rfl rfl).mp c127) | skip
          unfold f_X9_readNumber_b76
          unfold f_X9_readNumber_b77
          refine ⟨fun c129 => ?_, fun c129 => ?_⟩
          · skip
            first | (have t130 : ¬ ((0) = (0)) := (not_congr (i_eq (show (0 : Int32).toInt = 0 from rfl) (show (0 : Int32).toInt = 0 from rfl))).mp c129) | (have t130 : ¬ ((0 : Int32).toInt = (0 : Int32).toInt) := (not_congr (i_eq rfl rfl)).mp c129) | skip
            unfold f_X9_readNumber_b107
            refine ⟨fun c131 => ?_, fun c131 => ?_⟩
            · skip
              first | (have t132 : (0) = (0) := (i_eq (show (0 : Int32).toInt = 0 from rfl) (show (0 : Int32).toInt = 0 from rfl)).mp c131) | (have t132 : (0 : Int32).toInt = (0 : Int32).toInt := (i_eq rfl rfl).mp c131) | skip
              have t133 : (-1 : Int32).toInt = -1 := rfl
              exact hQ (-1 : Int32) I L w_I q_I (by omega)
            · skip
              first | (have t134 : ¬ ((0) = (0)) := (not_congr (i_eq (show (0 : Int32).toInt = 0 from rfl) (show (0 : Int32).toInt = 0 from rfl))).mp c131) | (have t134 : ¬ ((0 : Int32).toInt = (0 : Int32).toInt) := (not_congr (i_eq rfl rfl)).mp c131) | skip
              exact hQ v4 I L w_I q_I (by omega)
          · skip
            first | (have t135 : (0) = (0) := (i_eq (show (0 : Int32).toInt = 0 from rfl) (show (0 : Int32).toInt = 0 from rfl)).mp c129) | (have t135 : (0 : Int32).toInt = (0 : Int32).toInt := (i_eq rfl rfl).mp c129) | skip
            refine ⟨fun c136 => ?_, fun c136 => ?_⟩
            · skip
              first | (have t137 : ¬ (v5.toInt = (0)) := (not_congr (i_eq rfl (show (0 : Int32).toInt = 0 from rfl))).mp c136) | (have t137 : ¬ (v5.toInt = (0 : Int32).toInt) := (not_congr (i_eq rfl rfl)).mp c136) | skip
              unfold f_X9_readNumber_b103
              try (have t138 : ((I v0 6) - (1 : Int32)).toInt = ((I v0 6).toInt - (1)) := (i_sub rfl (show (1 : Int32).toInt = 1 from rfl) (by omega) (by omega)))
              refine s_X9_fail w_I v0 ((I v0 6) - (1 : Int32)) kv0   (fun r139 I140 L141 w_I140 f_I140  => ?_)
              have q_I140 : FR Ws_X9_readNumber Z I0 Z I140 := q_I.trans w0.1 w0.2.1 (f_I140.mono (by decide))
              have u142 : (I140 v0 6).toInt = (I v0 6).toInt := by rw [f_I140.2.2.1 v0 9 6 kv0 (by decide) (by decide)]
              have rr139 := i_rng r139
              unfold f_X9_readNumber_b107
              refine ⟨fun c143 => ?_, fun c143 => ?_⟩
              · skip
                first | (have t144 : (0) = (0) := (i_eq (show (0 : Int32).toInt = 0 from rfl) (show (0 : Int32).toInt = 0 from rfl)).mp c143) | (have t144 : (0 : Int32).toInt = (0 : Int32).toInt := (i_eq rfl rfl).mp c143) | skip
                have t145 : (-1 : Int32).toInt = -1 := rfl
                exact hQ (-1 : Int32) I140 L141 w_I140 q_I140 (by omega)
              · skip
                first | (have t146 : ¬ ((0) = (0)) := (not_congr (i_eq (show (0 : Int32).toInt = 0 from rfl) (show (0 : Int32).toInt = 0 from rfl))).mp c143) | (have t146 : ¬ ((0 : Int32).toInt = (0 : Int32).toInt) := (not_congr (i_eq rfl rfl)).mp c143) | skip
                exact hQ v4 I140 L141 w_I140 q_I140 (by omega)
            · skip
              first | (have t147 : v5.toInt = (0) := (i_eq rfl (show (0 : Int32).toInt = 0 from rfl)).mp c136) | (have t147 : v5.toInt = (0 : Int32).toInt := (i_eq rfl rfl).mp c136) | skip
              unfold f_X9_readNumber_b103
              refine s_X9_fail w_I v0 (I v0 6) kv0   (fun r148 I149 L150 w_I149 f_I149  => ?_)
              have q_I149 : FR Ws_X9_readNumber Z I0 Z I149 := q_I.trans w0.1 w0.2.1 (f_I149.mono (by decide))
              have u151 : (I149 v0 6).toInt = (I v0 6).toInt := by rw [f_I149.2.2.1 v0 9 6 kv0 (by decide) (by decide)]
              have rr148 := i_rng r148
              unfold f_X9_readNumber_b107
              refine ⟨fun c152 => ?_, fun c152 => ?_⟩
              · skip
                first | (have t153 : (0) = (0) := (i_eq (show (0 : Int32).toInt = 0 from rfl) (show (0 : Int32).toInt = 0 from rfl)).mp c152) | (have t153 : (0 : Int32).toInt = (0 : Int32).toInt := (i_eq rfl rfl).mp c152) | skip
                have t154 : (-1 : Int32).toInt = -1 := rfl
                exact hQ (-1 : Int32) I149 L150 w_I149 q_I149 (by omega)
              · skip
                first | (have t155 : ¬ ((0) = (0)) := (not_congr (i_eq (show (0 : Int32).toInt = 0 from rfl) (show (0 : Int32).toInt = 0 from rfl))).mp c152) | (have t155 : ¬ ((0 : Int32).toInt = (0 : Int32).toInt) := (not_congr (i_eq rfl rfl)).mp c152) | skip
                exact hQ v4 I149 L150 w_I149 q_I149 (by omega)
        · skip
          first | (have t156 : ¬ (v5.toInt ≤ (0)) := (not_congr (i_le rfl (show (0 : Int32).toInt = 0 from rfl))).mp c127) | (have t156 : ¬ (v5.toInt ≤ (0 : Int32).toInt) := (not_congr (i_le rfl rfl)).mp c127) | skip
          refine ⟨fun c157 => ?_, fun c157 => ?_⟩
          · skip
            first | (have t158 : v4.toInt < v2.toInt := (i_lt rfl rfl).mp c157) | (have t158 : v4.toInt < v2.toInt := (i_lt rfl rfl).mp c157) | skip
            unfold f_X9_readNumber_b76
            unfold f_X9_readNumber_b77
            refine ⟨fun c159 => ?_, fun c159 => ?_⟩
            · skip
              first | (have t160 : ¬ ((0) = (0)) := (not_congr (i_eq (show (0 : Int32).toInt = 0 from rfl) (show (0 : Int32).toInt = 0 from rfl))).mp c159) | (have t160 : ¬ ((0 : Int32).toInt = (0 : Int32).toInt) := (not_congr (i_eq rfl rfl)).mp c159) | skip
              unfold f_X9_readNumber_b107
              refine ⟨fun c161 => ?_, fun c161 => ?_⟩
              · skip
                first | (have t162 : (0) = (0) := (i_eq (show (0 : Int32).toInt = 0 from rfl) (show (0 : Int32).toInt = 0 from rfl)).mp c161) | (have t162 : (0 : Int32).toInt = (0 : Int32).toInt := (i_eq rfl rfl).mp c161) | skip
                have t163 : (-1 : Int32).toInt = -1 := rfl
                exact hQ (-1 : Int32) I L w_I q_I (by omega)
              · skip
                first | (have t164 : ¬ ((0) = (0)) := (not_congr (i_eq (show (0 : Int32).toInt = 0 from rfl) (show (0 : Int32).toInt = 0 from rfl))).mp c161) | (have t164 : ¬ ((0 : Int32).toInt = (0 : Int32).toInt) := (not_congr (i_eq rfl rfl)).mp c161) | skip
                exact hQ v4 I L w_I q_I (by omega)
            · skip
              first | (have t165 : (0) = (0) := (i_eq (show (0 : Int32).toInt = 0 from rfl) (show (0 : Int32).toInt = 0 from rfl)).mp c159) | (have t165 : (0 : Int32).toInt = (0 : Int32).toInt := (i_eq rfl rfl).mp c159) | skip
              refine ⟨fun c166 => ?_, fun c166 => ?_⟩
              · skip
                first | (have t167 : ¬ (v5.toInt = (0)) := (not_congr (i_eq rfl (show (0 : Int32).toInt = 0 from rfl))).mp c166) | (have t167 : ¬ (v5.toInt = (0 : Int32).toInt) := (not_congr (i_eq rfl rfl)).mp c166) | skip
                unfold f_X9_readNumber_b103
                try (have t168 : ((I v0 6) - (1 : Int32)).toInt = ((I v0 6).toInt - (1)) := (i_sub rfl (show (1 : Int32).toInt = 1 from rfl) (by omega) (by omega)))
                refine s_X9_fail w_I v0 ((I v0 6) - (1 : Int32)) kv0   (fun r169 I170 L171 w_I170 f_I170  => ?_)
                have q_I170 : FR Ws_X9_readNumber Z I0 Z I170 := q_I.trans w0.1 w0.2.1 (f_I170.mono (by decide))
                have u172 : (I170 v0 6).toInt = (I v0 6).toInt := by rw [f_I170.2.2.1 v0 9 6 kv0 (by decide) (by decide)]
                have rr169 := i_rng r169
                unfold f_X9_readNumber_b107
                refine ⟨fun c173 => ?_, fun c173 => ?_⟩
                · skip
                  first | (have t174 : (0) = (0) := (i_eq (show (0 : Int32).toInt = 0 from rfl) (show (0 : Int32).toInt = 0 from rfl)).mp c173) | (have t174 : (0 : Int32).toInt = (0 : Int32).toInt := (i_eq rfl rfl).mp c173) | skip
                  have t175 : (-1 : Int32).toInt = -1 := rfl
                  exact hQ (-1 : Int32) I170 L171 w_I170 q_I170 (by omega)
                · skip
                  first | (have t176 : ¬ ((0) = (0)) := (not_congr (i_eq (show (0 : Int32).toInt = 0 from rfl) (show (0 : Int32).toInt = 0 from rfl))).mp c173) | (have t176 : ¬ ((0 : Int32).toInt = (0 : Int32).toInt) := (not_congr (i_eq rfl rfl)).mp c173) | skip
                  exact hQ v4 I170 L171 w_I170 q_I170 (by omega)
              · skip
                first | (have t177 : v5.toInt = (0) := (i_eq rfl (show (0 : Int32).toInt = 0 from rfl)).mp c166) | (have t177 : v5.toInt = (0 : Int32).toInt := (i_eq rfl rfl).mp c166) | skip
                unfold f_X9_readNumber_b103
                refine s_X9_fail w_I v0 (I v0 6) kv0   (fun r178 I179 L180 w_I179 f_I179  => ?_)
                have q_I179 : FR Ws_X9_readNumber Z I0 Z I179 := q_I.trans w0.1 w0.2.1 (f_I179.mono (by decide))
                have u181 : (I179 v0 6).toInt = (I v0 6).toInt := by rw [f_I179.2.2.1 v0 9 6 kv0 (by decide) (by decide)]
                have rr178 := i_rng r178
                unfold f_X9_readNumber_b107
                refine ⟨fun c182 => ?_, fun c182 => ?_⟩
                · skip
                  first | (have t183 : (0) = (0) := (i_eq (show (0 : Int32).toInt = 0 from rfl) (show (0 : Int32).toInt = 0 from rfl)).mp c182) | (have t183 : (0 : Int32).toInt = (0 : Int32).toInt := (i_eq rfl rfl).mp c182) | skip
                  have t184 : (-1 : Int32).toInt = -1 := rfl
                  exact hQ (-1 : Int32) I179 L180 w_I179 q_I179 (by omega)
                · skip
                  first | (have t185 : ¬ ((0) = (0)) := (not_congr (i_eq (show (0 : Int32).toInt = 0 from rfl) (show (0 : Int32).toInt = 0 from rfl))).mp c182) | (have t185 : ¬ ((0 : Int32).toInt = (0 : Int32).toInt) := (not_congr (i_eq rfl rfl)).mp c182) | skip
                  exact hQ v4 I179 L180 w_I179 q_I179 (by omega)
          · skip
            first | (have t186 : ¬ (v4.toInt < v2.toInt) := (not_congr (i_lt rfl rfl)).mp c157) | (have t186 : ¬ (v4.toInt < v2.toInt) := (not_congr (i_lt rfl rfl)).mp c157) | skip
            refine ⟨fun c187 => ?_, fun c187 => ?_⟩
            · skip
              first | (have t188 : v3.toInt < v4.toInt := (i_lt rfl rfl).mp c187) | (have t188 : v3.toInt < v4.toInt := (i_lt rfl rfl).mp c187) | skip
              unfold f_X9_readNumber_b76
              unfold f_X9_readNumber_b77
              refine ⟨fun c189 => ?_, fun c189 => ?_⟩
              · skip
                first | (have t190 : ¬ ((0) = (0)) := (not_congr (i_eq (show (0 : Int32).toInt = 0 from rfl) (show (0 : Int32).toInt = 0 from rfl))).mp c189) | (have t190 : ¬ ((0 : Int32).toInt = (0 : Int32).toInt) := (not_congr (i_eq rfl rfl)).mp c189) | skip
                unfold f_X9_readNumber_b107
                refine ⟨fun c191 => ?_, fun c191 => ?_⟩
                · skip
                  first | (have t192 : (0) = (0) := (i_eq (show (0 : Int32).toInt = 0 from rfl) (show (0 : Int32).toInt = 0 from rfl)).mp c191) | (have t192 : (0 : Int32).toInt = (0 : Int32).toInt := (i_eq rfl rfl).mp c191) | skip
                  have t193 : (-1 : Int32).toInt = -1 := rfl
                  exact hQ (-1 : Int32) I L w_I q_I (by omega)
                · skip
                  first | (have t194 : ¬ ((0) = (0)) := (not_congr (i_eq (show (0 : Int32).toInt = 0 from rfl) (show (0 : Int32).toInt = 0 from rfl))).mp c191) | (have t194 : ¬ ((0 : Int32).toInt = (0 : Int32).toInt) := (not_congr (i_eq rfl rfl)).mp c191) | skip
                  exact hQ v4 I L w_I q_I (by omega)
              · skip
                first | (have t195 : (0) = (0) := (i_eq (show (0 : Int32).toInt = 0 from rfl) (show (0 : Int32).toInt = 0 from rfl)).mp c189) | (have t195 : (0 : Int32).toInt = (0 : Int32).toInt := (i_eq rfl rfl).mp c189) | skip
                refine ⟨fun c196 => ?_, fun c196 => ?_⟩
                · skip
                  first | (have t197 : ¬ (v5.toInt = (0)) := (not_congr (i_eq rfl (show (0 : Int32).toInt = 0 from rfl))).mp c196) | (have t197 : ¬ (v5.toInt = (0 : Int32).toInt) := (not_congr (i_eq rfl rfl)).mp c196) | skip
                  unfold f_X9_readNumber_b103
                  try (have t198 : ((I v0 6) - (1 : Int32)).toInt = ((I v0 6).toInt - (1)) := (i_sub rfl (show (1 : Int32).toInt = 1 from rfl) (by omega) (by omega)))
                  refine s_X9_fail w_I v0 ((I v0 6) - (1 : Int32)) kv0   (fun r199 I200 L201 w_I200 f_I200  => ?_)
                  have q_I200 : FR Ws_X9_readNumber Z I0 Z I200 := q_I.trans w0.1 w0.2.1 (f_I200.mono (by decide))
                  have u202 : (I200 v0 6).toInt = (I v0 6).toInt := by rw [f_I200.2.2.1 v0 9 6 kv0 (by decide) (by decide)]
                  have rr199 := i_rng r199
                  unfold f_X9_readNumber_b107
                  refine ⟨fun c203 => ?_, fun c203 => ?_⟩
                  · skip
                    first | (have t204 : (0) = (0) := (i_eq (show (0 : Int32).toInt = 0 from rfl) (show (0 : Int32).toInt = 0 from rfl)).mp c203) | (have t204 : (0 : Int32).toInt = (0 : Int32).toInt := (i_eq rfl rfl).mp c203) | skip
                    have t205 : (-1 : Int32).toInt = -1 := rfl
                    exact hQ (-1 : Int32) I200 L201 w_I200 q_I200 (by omega)
                  · skip
                    first | (have t206 : ¬ ((0) = (0)) := (not_congr (i_eq (show (0 : Int32).toInt = 0 from rfl) (show (0 : Int32).toInt = 0 from rfl))).mp c203) | (have t206 : ¬ ((0 : Int32).toInt = (0 : Int32).toInt) := (not_congr (i_eq rfl rfl)).mp c203) | skip
                    exact hQ v4 I200 L201 w_I200 q_I200 (by omega)
                · skip
                  first | (have t207 : v5.toInt = (0) := (i_eq rfl (show (0 : Int32).toInt = 0 from rfl)).mp c196) | (have t207 : v5.toInt = (0 : Int32).toInt := (i_eq rfl rfl).mp c196) | skip
                  unfold f_X9_readNumber_b103
                  refine s_X9_fail w_I v0 (I v0 6) kv0   (fun r208 I209 L210 w_I209 f_I209  => ?_)
                  have q_I209 : FR Ws_X9_readNumber Z I0 Z I209 := q_I.trans w0.1 w0.2.1 (f_I209.mono (by decide))
                  have u211 : (I209 v0 6).toInt = (I v0 6).toInt := by rw [f_I209.2.2.1 v0 9 6 kv0 (by decide) (by decide)]
                  have rr208 := i_rng r208
                  unfold f_X9_readNumber_b107
                  refine ⟨fun c212 => ?_, fun c212 => ?_⟩
                  · skip
                    first | (have t213 : (0) = (0) := (i_eq (show (0 : Int32).toInt = 0 from rfl) (show (0 : Int32).toInt = 0 from rfl)).mp c212) | (have t213 : (0 : Int32).toInt = (0 : Int32).toInt := (i_eq rfl rfl).mp c212) | skip
                    have t214 : (-1 : Int32).toInt = -1 := rfl
                    exact hQ (-1 : Int32) I209 L210 w_I209 q_I209 (by omega)
                  · skip
                    first | (have t215 : ¬ ((0) = (0)) := (not_congr (i_eq (show (0 : Int32).toInt = 0 from rfl) (show (0 : Int32).toInt = 0 from rfl))).mp c212) | (have t215 : ¬ ((0 : Int32).toInt = (0 : Int32).toInt) := (not_congr (i_eq rfl rfl)).mp c212) | skip
                    exact hQ v4 I209 L210 w_I209 q_I209 (by omega)
            · skip
              first | (have t216 : ¬ (v3.toInt < v4.toInt) := (not_congr (i_lt rfl rfl)).mp c187) | (have t216 : ¬ (v3.toInt < v4.toInt) := (not_congr (i_lt rfl rfl)).mp c187) | skip
              unfold f_X9_readNumber_b77
              refine ⟨fun c217 => ?_, fun c217 => ?_⟩
              · skip
                first | (have t218 : ¬ ((1) = (0)) := (not_congr (i_eq (show (1 : Int32).toInt = 1 from rfl) (show (0 : Int32).toInt = 0 from rfl))).mp c217) | (have t218 : ¬ ((1 : Int32).toInt = (0 : Int32).toInt) := (not_congr (i_eq rfl rfl)).mp c217) | skip
                unfold f_X9_readNumber_b107
                refine ⟨fun c219 => ?_, fun c219 => ?_⟩
                · skip
                  first | (have t220 : (1) = (0) := (i_eq (show (1 : Int32).toInt = 1 from rfl) (show (0 : Int32).toInt = 0 from rfl)).mp c219) | (have t220 : (1 : Int32).toInt = (0 : Int32).toInt := (i_eq rfl rfl).mp c219) | skip
                  have t221 : (-1 : Int32).toInt = -1 := rfl
                  exact hQ (-1 : Int32) I L w_I q_I (by omega)
                · skip
                  first | (have t222 : ¬ ((1) = (0)) := (not_congr (i_eq (show (1 : Int32).toInt = 1 from rfl) (show (0 : Int32).toInt = 0 from rfl))).mp c219) | (have t222 : ¬ ((1 : Int32).toInt = (0 : Int32).toInt) := (not_congr (i_eq rfl rfl)).mp c219) | skip
                  exact hQ v4 I L w_I q_I (by omega)
              · skip
                first | (have t223 : (1) = (0) := (i_eq (show (1 : Int32).toInt = 1 from rfl) (show (0 : Int32).toInt = 0 from rfl)).mp c217) | (have t223 : (1 : Int32).toInt = (0 : Int32).toInt := (i_eq rfl rfl).mp c217) | skip
                refine ⟨fun c224 => ?_, fun c224 => ?_⟩
                · skip
                  first | (have t225 : ¬ (v5.toInt = (0)) := (not_congr (i_eq rfl (show (0 : Int32).toInt = 0 from rfl))).mp c224) | (have t225 : ¬ (v5.toInt = (0 : Int32).toInt) := (not_congr (i_eq rfl rfl)).mp c224) | skip
                  unfold f_X9_readNumber_b103
                  try (have t226 : ((I v0 6) - (1 : Int32)).toInt = ((I v0 6).toInt - (1)) := (i_sub rfl (show (1 : Int32).toInt = 1 from rfl) (by omega) (by omega)))
                  refine s_X9_fail w_I v0 ((I v0 6) - (1 : Int32)) kv0   (fun r227 I228 L229 w_I228 f_I228  => ?_)
                  have q_I228 : FR Ws_X9_readNumber Z I0 Z I228 := q_I.trans w0.1 w0.2.1 (f_I228.mono (by decide))
                  have u230 : (I228 v0 6).toInt = (I v0 6).toInt := by rw [f_I228.2.2.1 v0 9 6 kv0 (by decide) (by decide)]
                  have rr227 := i_rng r227
                  unfold f_X9_readNumber_b107
                  refine ⟨fun c231 => ?_, fun c231 => ?_⟩
                  · skip
                    first | (have t232 : (1) = (0) := (i_eq (show (1 : Int32).toInt = 1 from rfl) (show (0 : Int32).toInt = 0 from rfl)).mp c231) | (have t232 : (1 : Int32).toInt = (0 : Int32).toInt := (i_eq rfl rfl).mp c231) | skip
                    have t233 : (-1 : Int32).toInt = -1 := rfl
                    exact hQ (-1 : Int32) I228 L229 w_I228 q_I228 (by omega)
                  · skip
                    first | (have t234 : ¬ ((1) = (0)) := (not_congr (i_eq (show (1 : Int32).toInt = 1 from rfl) (show (0 : Int32).toInt = 0 from rfl))).mp c231) | (have t234 : ¬ ((1 : Int32).toInt = (0 : Int32).toInt) := (not_congr (i_eq rfl rfl)).mp c231) | skip
                    exact hQ v4 I228 L229 w_I228 q_I228 (by omega)
                · skip
                  first | (have t235 : v5.toInt = (0) := (i_eq rfl (show (0 : Int32).toInt = 0 from rfl)).mp c224) | (have t235 : v5.toInt = (0 : Int32).toInt := (i_eq rfl rfl).mp c224) | skip
                  unfold f_X9_readNumber_b103
                  refine s_X9_fail w_I v0 (I v0 6) kv0   (fun r236 I237 L238 w_I237 f_I237  => ?_)
                  have q_I237 : FR Ws_X9_readNumber Z I0 Z I237 := q_I.trans w0.1 w0.2.1 (f_I237.mono (by decide))
                  have u239 : (I237 v0 6).toInt = (I v0 6).toInt := by rw [f_I237.2.2.1 v0 9 6 kv0 (by decide) (by decide)]
                  have rr236 := i_rng r236
                  unfold f_X9_readNumber_b107
                  refine ⟨fun c240 => ?_, fun c240 => ?_⟩
                  · skip
                    first | (have t241 : (1) = (0) := (i_eq (show (1 : Int32).toInt = 1 from rfl) (show (0 : Int32).toInt = 0 from rfl)).mp c240) | (have t241 : (1 : Int32).toInt = (0 : Int32).toInt := (i_eq rfl rfl).mp c240) | skip
                    have t242 : (-1 : Int32).toInt = -1 := rfl
                    exact hQ (-1 : Int32) I237 L238 w_I237 q_I237 (by omega)
                  · skip
                    first | (have t243 : ¬ ((1) = (0)) := (not_congr (i_eq (show (1 : Int32).toInt = 1 from rfl) (show (0 : Int32).toInt = 0 from rfl))).mp c240) | (have t243 : ¬ ((1 : Int32).toInt = (0 : Int32).toInt) := (not_congr (i_eq rfl rfl)).mp c240) | skip
                    exact hQ v4 I237 L238 w_I237 q_I237 (by omega)
      · skip
        first | (have t244 : ¬ (r123.toInt = (0)) := (not_congr (i_eq rfl (show (0 : Int32).toInt = 0 from rfl))).mp c125) | (have t244 : ¬ (r123.toInt = (0 : Int32).toInt) := (not_congr (i_eq rfl rfl)).mp c125) | skip
        refine s_X9_look w_I v0 v1 kv0 kv1   (fun r245 p246 => ?_)
        have rr245 := i_rng r245
        intro x247 ex247
        have rx247 := i_rng x247
        first | (have tx247 : x247.toInt = (((v4.toInt * (10)) + r245.toInt) - (48)) := by (rw [ex247]; exact (i_sub (i_add (i_mul rfl (show (10 : Int32).toInt = 10 from rfl) (by omega) (by omega)) rfl (by omega) (by omega)) (show (48 : Int32).toInt = 48 from rfl) (by omega) (by omega)))) | (have tx247 : x247.toInt = (((v4 * (10 : Int32)) + r245) - (48 : Int32)).toInt := by rw [ex247])
        intro I248 eI248
        try (have t249 : ((I v0 6) + (1 : Int32)).toInt = ((I v0 6).toInt + (1)) := (i_add rfl (show (1 : Int32).toInt = 1 from rfl) (by omega) (by omega)))
        have w_I248 : WD Z I248 := by rw [eI248]; exact WD_putF w_I 9 6 kv0 (by decide) (by decide) trivial
        have f_I248 : FR [(9, 6)] Z I Z I248 := by rw [eI248]; exact FR_putF kv0 (by decide) List.mem_cons_self
        have q_I248 : FR Ws_X9_readNumber Z I0 Z I248 := q_I.trans w0.1 w0.2.1 (f_I248.mono (by decide))
        first | (have u250 : (I248 v0 6).toInt = ((I v0 6).toInt + (1)) := by (rw [eI248, show jpI I v0 6 ((I v0 6) + (1 : Int32)) v0 6 = ((I v0 6) + (1 : Int32)) from jpI_at] <;> exact (i_add rfl (show (1 : Int32).toInt = 1 from rfl) (by omega) (by omega)))) | skip
        intro x251 ex251
        have rx251 := i_rng x251
        first | (have tx251 : x251.toInt = v5.toInt + (1) := by (rw [ex251]; exact (i_add rfl (show (1 : Int32).toInt = 1 from rfl) (by omega) (by omega)))) | skip
        exact ih x247 x251 I248 L w_I248 q_I248   (by omega)  (by omega)
set_option maxHeartbeats 4000000 in
set_option maxRecDepth 100000 in
theorem s_X9_readNumber {Z : jZ} {I : jI} {L : jL} (w_I : WD Z I) (v0 : Nat) (v1 : Nat) (v2 : Int32) (v3 : Int32) (kv0 : jk Z v0 9) (kv1 : jk Z v1 10) {Q : Int32 → jI → jL → Prop} (hQ : ∀ (r : Int32) (I' : jI) (L' : jL), WD Z I' → FR Ws_X9_readNumber Z I Z I' → (r.toInt = -1 ∨ (v2.toInt ≤ r.toInt ∧ r.toInt ≤ v3.toInt)) → Q r I' L') : f_X9_readNumber v0 v1 v2 v3 Z I L Q := by
  unfold f_X9_readNumber
  have q_I : FR Ws_X9_readNumber Z I Z I := FR.rf
  have rv2 := i_rng v2
  have rv3 := i_rng v3
  have t252 : (0 : Int32).toInt = 0 := rfl
  have t253 : (0 : Int32).toInt = 0 := rfl
  exact ⟨(2 - (0 : Int32).toInt).toNat + 1, l_X9_readNumber_L6 w_I v0 v1 v2 v3 kv0 kv1   hQ   _ (0 : Int32) (0 : Int32) I L w_I q_I   (by omega)  (by omega)⟩
def Ws_X9_readMark : List (Nat × Nat) := [(9, 6), (9, 8)]
set_option maxHeartbeats 4000000 in
set_option maxRecDepth 100000 in
theorem s_X9_readMark {Z : jZ} {I : jI} {L : jL} (w_I : WD Z I) (v0 : Nat) (v1 : Nat) (v2 : Int32) (kv0 : jk Z v0 9) (kv1 : jk Z v1 10) {Q : Int32 → jI → jL → Prop} (hQ : ∀ (r : Int32) (I' : jI) (L' : jL), WD Z I' → FR Ws_X9_readMark Z I Z I' → Q r I' L') : f_X9_readMark v0 v1 v2 Z I L Q := by
  unfold f_X9_readMark
  have q_I : FR Ws_X9_readMark Z I Z I := FR.rf
  have rv2 := i_rng v2
  refine s_X9_look w_I v0 v1 kv0 kv1   (fun r1 p2 => ?_)
  have rr1 := i_rng r1
  refine ⟨fun c3 => ?_, fun c3 => ?_⟩
  · skip
    first | (have t4 : r1.toInt = v2.toInt := (i_eq rfl rfl).mp c3) | (have t4 : r1.toInt = v2.toInt := (i_eq rfl rfl).mp c3) | skip
    intro I5 eI5
    try (have t6 : ((I v0 6) + (1 : Int32)).toInt = ((I v0 6).toInt + (1)) := (i_add rfl (show (1 : Int32).toInt = 1 from rfl) (by omega) (by omega)))
    have w_I5 : WD Z I5 := by rw [eI5]; exact WD_putF w_I 9 6 kv0 (by decide) (by decide) trivial
    have f_I5 : FR [(9, 6)] Z I Z I5 := by rw [eI5]; exact FR_putF kv0 (by decide) List.mem_cons_self
    have q_I5 : FR Ws_X9_readMark Z I Z I5 := q_I.trans w_I.1 w_I.2.1 (f_I5.mono (by decide))
    first | (have u7 : (I5 v0 6).toInt = ((I v0 6).toInt + (1)) := by (rw [eI5, show jpI I v0 6 ((I v0 6) + (1 : Int32)) v0 6 = ((I v0 6) + (1 : Int32)) from jpI_at] <;> exact (i_add rfl (show (1 : Int32).toInt = 1 from rfl) (by omega) (by omega)))) | skip
    have t8 : (1 : Int32).toInt = 1 := rfl
    exact hQ (1 : Int32) I5 L w_I5 q_I5 
  · skip
    first | (have t9 : ¬ (r1.toInt = v2.toInt) := (not_congr (i_eq rfl rfl)).mp c3) | (have t9 : ¬ (r1.toInt = v2.toInt) := (not_congr (i_eq rfl rfl)).mp c3) | skip
    refine s_X9_fail w_I v0 (I v0 6) kv0   (fun r10 I11 L12 w_I11 f_I11  => ?_)
    have q_I11 : FR Ws_X9_readMark Z I Z I11 := q_I.trans w_I.1 w_I.2.1 (f_I11.mono (by decide))
    have u13 : (I11 v0 6).toInt = (I v0 6).toInt := by rw [f_I11.2.2.1 v0 9 6 kv0 (by decide) (by decide)]
    have rr10 := i_rng r10
    exact hQ r10 I11 L12 w_I11 q_I11 
def Ws_X9_readFamily : List (Nat × Nat) := [(9, 6), (9, 8)]
set_option maxHeartbeats 4000000 in
set_option maxRecDepth 100000 in
theorem s_X9_readFamily {Z : jZ} {I : jI} {L : jL} (w_I : WD Z I) (v0 : Nat) (v1 : Nat) (kv0 : jk Z v0 9) (kv1 : jk Z v1 10) {Q : Int32 → jI → jL → Prop} (hQ : ∀ (r : Int32) (I' : jI) (L' : jL), WD Z I' → FR Ws_X9_readFamily Z I Z I' → (-1 ≤ r.toInt ∧ r.toInt ≤ 7) → Q r I' L') : f_X9_readFamily v0 v1 Z I L Q := by
  unfold f_X9_readFamily
  have q_I : FR Ws_X9_readFamily Z I Z I := FR.rf
  refine s_X9_look w_I v0 v1 kv0 kv1   (fun r1 p2 => ?_)
  have rr1 := i_rng r1
  intro x3 ex3
  have rx3 := i_rng x3
  first | (have tx3 : x3.toInt = (r1.toInt - (48)) := by (rw [ex3]; exact (i_sub rfl (show (48 : Int32).toInt = 48 from rfl) (by omega) (by omega)))) | (have tx3 : x3.toInt = (r1 - (48 : Int32)).toInt := by rw [ex3])
  refine s_X11_isFamily w_I x3    (fun r4 p5 => ?_)
  have rr4 := i_rng r4
  refine ⟨fun c6 => ?_, fun c6 => ?_⟩
  · skip
    first | (have t7 : ¬ (r4.toInt = (0)) := (not_congr (i_eq rfl (show (0 : Int32).toInt = 0 from rfl))).mp c6) | (have t7 : ¬ (r4.toInt = (0 : Int32).toInt) := (not_congr (i_eq rfl rfl)).mp c6) | skip
    intro I8 eI8
    try (have t9 : ((I v0 6) + (1 : Int32)).toInt = ((I v0 6).toInt + (1)) := (i_add rfl (show (1 : Int32).toInt = 1 from rfl) (by omega) (by omega)))
    have w_I8 : WD Z I8 := by rw [eI8]; exact WD_putF w_I 9 6 kv0 (by decide) (by decide) trivial
    have f_I8 : FR [(9, 6)] Z I Z I8 := by rw [eI8]; exact FR_putF kv0 (by decide) List.mem_cons_self
    have q_I8 : FR Ws_X9_readFamily Z I Z I8 := q_I.trans w_I.1 w_I.2.1 (f_I8.mono (by decide))
    first | (have u10 : (I8 v0 6).toInt = ((I v0 6).toInt + (1)) := by (rw [eI8, show jpI I v0 6 ((I v0 6) + (1 : Int32)) v0 6 = ((I v0 6) + (1 : Int32)) from jpI_at] <;> exact (i_add rfl (show (1 : Int32).toInt = 1 from rfl) (by omega) (by omega)))) | skip
    exact hQ x3 I8 L w_I8 q_I8 (by omega)
  · skip
    first | (have t11 : r4.toInt = (0) := (i_eq rfl (show (0 : Int32).toInt = 0 from rfl)).mp c6) | (have t11 : r4.toInt = (0 : Int32).toInt := (i_eq rfl rfl).mp c6) | skip
    refine s_X9_fail w_I v0 (I v0 6) kv0   (fun r12 I13 L14 w_I13 f_I13  => ?_)
    have q_I13 : FR Ws_X9_readFamily Z I Z I13 := q_I.trans w_I.1 w_I.2.1 (f_I13.mono (by decide))
    have u15 : (I13 v0 6).toInt = (I v0 6).toInt := by rw [f_I13.2.2.1 v0 9 6 kv0 (by decide) (by decide)]
    have rr12 := i_rng r12
    have t16 : (-1 : Int32).toInt = -1 := rfl
    exact hQ (-1 : Int32) I13 L14 w_I13 q_I13 (by omega)
def Ws_X9_readTimes : List (Nat × Nat) := [(9, 6), (9, 8)]
set_option maxHeartbeats 4000000 in
set_option maxRecDepth 100000 in
theorem s_X9_readTimes {Z : jZ} {I : jI} {L : jL} (w_I : WD Z I) (v0 : Nat) (v1 : Nat) (kv0 : jk Z v0 9) (kv1 : jk Z v1 10) {Q : Int32 → jI → jL → Prop} (hQ : ∀ (r : Int32) (I' : jI) (L' : jL), WD Z I' → FR Ws_X9_readTimes Z I Z I' → (r.toInt = -1 ∨ (1 ≤ r.toInt ∧ r.toInt ≤ 24)) → Q r I' L') : f_X9_readTimes v0 v1 Z I L Q := by
  unfold f_X9_readTimes
  have q_I : FR Ws_X9_readTimes Z I Z I := FR.rf
  refine s_X9_look w_I v0 v1 kv0 kv1   (fun r1 p2 => ?_)
  have rr1 := i_rng r1
  refine ⟨fun c3 => ?_, fun c3 => ?_⟩
  · skip
    first | (have t4 : r1.toInt = (42) := (i_eq rfl (show (42 : Int32).toInt = 42 from rfl)).mp c3) | (have t4 : r1.toInt = (42 : Int32).toInt := (i_eq rfl rfl).mp c3) | skip
    intro I5 eI5
    try (have t6 : ((I v0 6) + (1 : Int32)).toInt = ((I v0 6).toInt + (1)) := (i_add rfl (show (1 : Int32).toInt = 1 from rfl) (by omega) (by omega)))
    have w_I5 : WD Z I5 := by rw [eI5]; exact WD_putF w_I 9 6 kv0 (by decide) (by decide) trivial
    have f_I5 : FR [(9, 6)] Z I Z I5 := by rw [eI5]; exact FR_putF kv0 (by decide) List.mem_cons_self
    have q_I5 : FR Ws_X9_readTimes Z I Z I5 := q_I.trans w_I.1 w_I.2.1 (f_I5.mono (by decide))
    first | (have u7 : (I5 v0 6).toInt = ((I v0 6).toInt + (1)) := by (rw [eI5, show jpI I v0 6 ((I v0 6) + (1 : Int32)) v0 6 = ((I v0 6) + (1 : Int32)) from jpI_at] <;> exact (i_add rfl (show (1 : Int32).toInt = 1 from rfl) (by omega) (by omega)))) | skip
    have t9 : 0 ≤ (I5 v0 5).toInt ∧ (I5 v0 5).toInt ≤ 24 := w_I5.fld 9 5 kv0 (by decide)
    have t10 : (1 : Int32).toInt = 1 := rfl
    try (have t11 : ((24 : Int32) - (I5 v0 5)).toInt = ((24) - (I5 v0 5).toInt) := (i_sub (show (24 : Int32).toInt = 24 from rfl) rfl (by omega) (by omega)))
    refine s_X9_readNumber w_I5 v0 v1 (1 : Int32) ((24 : Int32) - (I5 v0 5)) kv0 kv1   (fun r12 I14 L15 w_I14 f_I14 p13 => ?_)
    have q_I14 : FR Ws_X9_readTimes Z I Z I14 := q_I5.trans w_I.1 w_I.2.1 (f_I14.mono (by decide))
    have u16 : (I14 v0 5).toInt = (I5 v0 5).toInt := by rw [f_I14.2.2.1 v0 9 5 kv0 (by decide) (by decide)]
    have rr12 := i_rng r12
    exact hQ r12 I14 L15 w_I14 q_I14 (by omega)
  · skip
    first | (have t17 : ¬ (r1.toInt = (42)) := (not_congr (i_eq rfl (show (42 : Int32).toInt = 42 from rfl))).mp c3) | (have t17 : ¬ (r1.toInt = (42 : Int32).toInt) := (not_congr (i_eq rfl rfl)).mp c3) | skip
    have t18 : (1 : Int32).toInt = 1 := rfl
    exact hQ (1 : Int32) I L w_I q_I (by omega)
def Ws_X9_put : List (Nat × Nat) := [(9, 0), (9, 1), (9, 2), (9, 3), (9, 4), (9, 5)]
set_option maxHeartbeats 4000000 in
set_option maxRecDepth 100000 in
theorem s_X9_put {Z : jZ} {I : jI} {L : jL} (w_I : WD Z I) (v0 : Nat) (v1 : Int32) (v2 : Int32) (v3 : Int32) (v4 : Int32) (v5 : Int32) (kv0 : jk Z v0 9) (p0 : 0 ≤ v3.toInt ∧ v3.toInt ≤ 20) {Q : jI → jL → Prop} (hQ : ∀  (I' : jI) (L' : jL), WD Z I' → FR Ws_X9_put Z I Z I' → Q I' L') : f_X9_put v0 v1 v2 v3 v4 v5 Z I L Q := by
  unfold f_X9_put
  have q_I : FR Ws_X9_put Z I Z I := FR.rf
  have rv1 := i_rng v1
  have rv2 := i_rng v2
  have rv3 := i_rng v3
  have rv4 := i_rng v4
  have rv5 := i_rng v5
  have t2 : 0 ≤ (I v0 5).toInt ∧ (I v0 5).toInt ≤ 24 := w_I.fld 9 5 kv0 (by decide)
  refine ⟨fun c3 => ?_, fun c3 => ?_⟩
  · skip
    first | (have t4 : (24) ≤ (I v0 5).toInt := (i_le (show (24 : Int32).toInt = 24 from rfl) rfl).mp c3) | (have t4 : (24 : Int32).toInt ≤ (I v0 5).toInt := (i_le rfl rfl).mp c3) | skip
    exact hQ  I L w_I q_I 
  · skip
    first | (have t5 : ¬ ((24) ≤ (I v0 5).toInt) := (not_congr (i_le (show (24 : Int32).toInt = 24 from rfl) rfl)).mp c3) | (have t5 : ¬ ((24 : Int32).toInt ≤ (I v0 5).toInt) := (not_congr (i_le rfl rfl)).mp c3) | skip
    intro b6 eb6
    obtain ⟨x7, ex7, kb6, lb6⟩ := sh_f w_I.1 kv0 (j := 0) (k := 14) (m := 24) rfl
    cases eb6.symm.trans ex7
    have t9 : 0 ≤ (I v0 5).toInt ∧ (I v0 5).toInt ≤ 24 := w_I.fld 9 5 kv0 (by decide)
    have o10 : vp_in (I v0 5) 24 := vi_of rfl (by omega) (by omega)
    refine ⟨o10, ?_⟩
    intro I11 eI11
    have w_I11 : WD Z I11 := by rw [eI11]; exact WD_putA w_I 9 0 kv0 eb6 kb6 rfl rfl (by decide) trivial
    have f_I11 : FR [(9, 0)] Z I Z I11 := by rw [eI11]; exact FR_upA w_I.2.1 kv0 eb6 kb6 rfl rfl List.mem_cons_self
    have q_I11 : FR Ws_X9_put Z I Z I11 := q_I.trans w_I.1 w_I.2.1 (f_I11.mono (by decide))
    have u12 : (I11 v0 5).toInt = (I v0 5).toInt := by rw [f_I11.2.2.1 v0 9 5 kv0 (by decide) (by decide)]
    intro b13 eb13
    obtain ⟨x14, ex14, kb13, lb13⟩ := sh_f w_I11.1 kv0 (j := 1) (k := 14) (m := 24) rfl
    cases eb13.symm.trans ex14
    have t16 : 0 ≤ (I11 v0 5).toInt ∧ (I11 v0 5).toInt ≤ 24 := w_I11.fld 9 5 kv0 (by decide)
    have o17 : vp_in (I11 v0 5) 24 := vi_of rfl (by omega) (by omega)
    refine ⟨o17, ?_⟩
    intro I18 eI18
    have w_I18 : WD Z I18 := by rw [eI18]; exact WD_putA w_I11 9 1 kv0 eb13 kb13 rfl rfl (by decide) trivial
    have f_I18 : FR [(9, 1)] Z I11 Z I18 := by rw [eI18]; exact FR_upA w_I11.2.1 kv0 eb13 kb13 rfl rfl List.mem_cons_self
    have q_I18 : FR Ws_X9_put Z I Z I18 := q_I11.trans w_I.1 w_I.2.1 (f_I18.mono (by decide))
    have u19 : (I18 v0 5).toInt = (I11 v0 5).toInt := by rw [f_I18.2.2.1 v0 9 5 kv0 (by decide) (by decide)]
    intro b20 eb20
    obtain ⟨x21, ex21, kb20, lb20⟩ := sh_f w_I18.1 kv0 (j := 2) (k := 14) (m := 24) rfl
    cases eb20.symm.trans ex21
    have t23 : 0 ≤ (I18 v0 5).toInt ∧ (I18 v0 5).toInt ≤ 24 := w_I18.fld 9 5 kv0 (by decide)
    have o24 : vp_in (I18 v0 5) 24 := vi_of rfl (by omega) (by omega)
    refine ⟨o24, ?_⟩
    intro I25 eI25
    have w_I25 : WD Z I25 := by rw [eI25]; exact WD_putA w_I18 9 2 kv0 eb20 kb20 rfl rfl (by decide) (by constructor <;> omega)
    have f_I25 : FR [(9, 2)] Z I18 Z I25 := by rw [eI25]; exact FR_upA w_I18.2.1 kv0 eb20 kb20 rfl rfl List.mem_cons_self
    have q_I25 : FR Ws_X9_put Z I Z I25 := q_I18.trans w_I.1 w_I.2.1 (f_I25.mono (by decide))
    have u26 : (I25 v0 5).toInt = (I18 v0 5).toInt := by rw [f_I25.2.2.1 v0 9 5 kv0 (by decide) (by decide)]
    intro b27 eb27
    obtain ⟨x28, ex28, kb27, lb27⟩ := sh_f w_I25.1 kv0 (j := 3) (k := 14) (m := 24) rfl
    cases eb27.symm.trans ex28
    have t30 : 0 ≤ (I25 v0 5).toInt ∧ (I25 v0 5).toInt ≤ 24 := w_I25.fld 9 5 kv0 (by decide)
    have o31 : vp_in (I25 v0 5) 24 := vi_of rfl (by omega) (by omega)
    refine ⟨o31, ?_⟩
    intro I32 eI32
    have w_I32 : WD Z I32 := by rw [eI32]; exact WD_putA w_I25 9 3 kv0 eb27 kb27 rfl rfl (by decide) trivial
    have f_I32 : FR [(9, 3)] Z I25 Z I32 := by rw [eI32]; exact FR_upA w_I25.2.1 kv0 eb27 kb27 rfl rfl List.mem_cons_self
    have q_I32 : FR Ws_X9_put Z I Z I32 := q_I25.trans w_I.1 w_I.2.1 (f_I32.mono (by decide))
    have u33 : (I32 v0 5).toInt = (I25 v0 5).toInt := by rw [f_I32.2.2.1 v0 9 5 kv0 (by decide) (by decide)]
    intro b34 eb34
    obtain ⟨x35, ex35, kb34, lb34⟩ := sh_f w_I32.1 kv0 (j := 4) (k := 14) (m := 24) rfl
    cases eb34.symm.trans ex35
    have t37 : 0 ≤ (I32 v0 5).toInt ∧ (I32 v0 5).toInt ≤ 24 := w_I32.fld 9 5 kv0 (by decide)
    have o38 : vp_in (I32 v0 5) 24 := vi_of rfl (by omega) (by omega)
    refine ⟨o38, ?_⟩
    intro I39 eI39
    have w_I39 : WD Z I39 := by rw [eI39]; exact WD_putA w_I32 9 4 kv0 eb34 kb34 rfl rfl (by decide) trivial
    have f_I39 : FR [(9, 4)] Z I32 Z I39 := by rw [eI39]; exact FR_upA w_I32.2.1 kv0 eb34 kb34 rfl rfl List.mem_cons_self
    have q_I39 : FR Ws_X9_put Z I Z I39 := q_I32.trans w_I.1 w_I.2.1 (f_I39.mono (by decide))
    have u40 : (I39 v0 5).toInt = (I32 v0 5).toInt := by rw [f_I39.2.2.1 v0 9 5 kv0 (by decide) (by decide)]
    have t42 : 0 ≤ (I39 v0 5).toInt ∧ (I39 v0 5).toInt ≤ 24 := w_I39.fld 9 5 kv0 (by decide)
    intro I43 eI43
    try (have t44 : ((I39 v0 5) + (1 : Int32)).toInt = ((I39 v0 5).toInt + (1)) := (i_add rfl (show (1 : Int32).toInt = 1 from rfl) (by omega) (by omega)))
    have w_I43 : WD Z I43 := by rw [eI43]; exact WD_putF w_I39 9 5 kv0 (by decide) (by decide) (by constructor <;> omega)
    have f_I43 : FR [(9, 5)] Z I39 Z I43 := by rw [eI43]; exact FR_putF kv0 (by decide) List.mem_cons_self
    have q_I43 : FR Ws_X9_put Z I Z I43 := q_I39.trans w_I.1 w_I.2.1 (f_I43.mono (by decide))
    first | (have u45 : (I43 v0 5).toInt = ((I39 v0 5).toInt + (1)) := by (rw [eI43, show jpI I39 v0 5 ((I39 v0 5) + (1 : Int32)) v0 5 = ((I39 v0 5) + (1 : Int32)) from jpI_at] <;> exact (i_add rfl (show (1 : Int32).toInt = 1 from rfl) (by omega) (by omega)))) | skip
    exact hQ  I43 L w_I43 q_I43 
def Ws_X9_readLine : List (Nat × Nat) := [(9, 0), (9, 1), (9, 2), (9, 3), (9, 4), (9, 5), (9, 6), (9, 8)]
set_option maxHeartbeats 4000000 in
set_option maxRecDepth 100000 in
theorem l_X9_readLine_L151 {Z : jZ} {I0 : jI} {Q : Int32 → jI → jL → Prop} (w0 : WD Z I0) (v0 : Nat) (v1 : Nat) (kv0 : jk Z v0 9) (kv1 : jk Z v1 10) (v2 : Int32) (v3 : Int32) (v4 : Int32) (v5 : Int32) (v6 : Int32) (v7 : Int32) (hQ : ∀ (r : Int32) (I' : jI) (L' : jL), WD Z I' → FR Ws_X9_readLine Z I0 Z I' → Q r I' L') : ∀ (n : Nat) (v8 : Int32) (I : jI) (L : jL), WD Z I → FR Ws_X9_readLine Z I0 Z I →   (0 ≤ v8.toInt ∧ v8.toInt ≤ 24 ∧ v7.toInt ≤ 24 ∧ 0 ≤ v4.toInt ∧ v4.toInt ≤ 20) → 24 - v8.toInt < (n : Int) → f_X9_readLine_L151  Z Q n v0 v2 v3 v4 v5 v6 v7 v8 I L := by
  intro n
  induction n with
  | zero =>
    intro v8 I L w_I q_I   li  me
    exfalso
    omega
  | succ n ih =>
    intro v8 I L w_I q_I   li  me
    unfold f_X9_readLine_L151
    have rv8 := i_rng v8
    have rv2 := i_rng v2
    have rv3 := i_rng v3
    have rv4 := i_rng v4
    have rv5 := i_rng v5
    have rv6 := i_rng v6
    have rv7 := i_rng v7
    refine ⟨fun c1 => ?_, fun c1 => ?_⟩
    · skip
      first | (have t2 : v7.toInt ≤ v8.toInt := (i_le rfl rfl).mp c1) | (have t2 : v7.toInt ≤ v8.toInt := (i_le rfl rfl).mp c1) | skip
      refine ⟨fun c3 => ?_, fun c3 => ?_⟩
      · skip
        first | (have t4 : v7.toInt = (-1) := (i_eq rfl (show (-1 : Int32).toInt = -1 from rfl)).mp c3) | (have t4 : v7.toInt = (-1 : Int32).toInt := (i_eq rfl rfl).mp c3) | skip
        have t5 : (0 : Int32).toInt = 0 := rfl
        exact hQ (0 : Int32) I L w_I q_I 
      · skip
        first | (have t6 : ¬ (v7.toInt = (-1)) := (not_congr (i_eq rfl (show (-1 : Int32).toInt = -1 from rfl))).mp c3) | (have t6 : ¬ (v7.toInt = (-1 : Int32).toInt) := (not_congr (i_eq rfl rfl)).mp c3) | skip
        have t7 : (1 : Int32).toInt = 1 := rfl
        exact hQ (1 : Int32) I L w_I q_I 
    · skip
      first | (have t8 : ¬ (v7.toInt ≤ v8.toInt) := (not_congr (i_le rfl rfl)).mp c1) | (have t8 : ¬ (v7.toInt ≤ v8.toInt) := (not_congr (i_le rfl rfl)).mp c1) | skip
      refine s_X9_put w_I v0 v2 v3 v4 v6 v5 kv0  (by omega) (fun  I9 L10 w_I9 f_I9  => ?_)
      have q_I9 : FR Ws_X9_readLine Z I0 Z I9 := q_I.trans w0.1 w0.2.1 (f_I9.mono (by decide))
      intro x11 ex11
      have rx11 := i_rng x11
      first | (have tx11 : x11.toInt = v8.toInt + (1) := by (rw [ex11]; exact (i_add rfl (show (1 : Int32).toInt = 1 from rfl) (by omega) (by omega)))) | skip
      exact ih x11 I9 L10 w_I9 q_I9   (by omega)  (by omega)
set_option maxHeartbeats 4000000 in
set_option maxRecDepth 100000 in
theorem s_X9_readLine {Z : jZ} {I : jI} {L : jL} (w_I : WD Z I) (v0 : Nat) (v1 : Nat) (kv0 : jk Z v0 9) (kv1 : jk Z v1 10) {Q : Int32 → jI → jL → Prop} (hQ : ∀ (r : Int32) (I' : jI) (L' : jL), WD Z I' → FR Ws_X9_readLine Z I Z I' → Q r I' L') : f_X9_readLine v0 v1 Z I L Q := by
  unfold f_X9_readLine
  have q_I : FR Ws_X9_readLine Z I Z I := FR.rf
  have t13 : 0 ≤ (I v0 5).toInt ∧ (I v0 5).toInt ≤ 24 := w_I.fld 9 5 kv0 (by decide)
  refine ⟨fun c14 => ?_, fun c14 => ?_⟩
  · skip
    first | (have t15 : (I v0 5).toInt < (24) := (i_lt rfl (show (24 : Int32).toInt = 24 from rfl)).mp c14) | (have t15 : (I v0 5).toInt < (24 : Int32).toInt := (i_lt rfl rfl).mp c14) | skip
    have t16 : (1 : Int32).toInt = 1 := rfl
    have t17 : (30 : Int32).toInt = 30 := rfl
    refine s_X9_readNumber w_I v0 v1 (1 : Int32) (30 : Int32) kv0 kv1   (fun r18 I20 L21 w_I20 f_I20 p19 => ?_)
    have q_I20 : FR Ws_X9_readLine Z I Z I20 := q_I.trans w_I.1 w_I.2.1 (f_I20.mono (by decide))
    have u22 : (I20 v0 5).toInt = (I v0 5).toInt := by rw [f_I20.2.2.1 v0 9 5 kv0 (by decide) (by decide)]
    have rr18 := i_rng r18
    refine ⟨fun c23 => ?_, fun c23 => ?_⟩
    · skip
      first | (have t24 : r18.toInt = (-1) := (i_eq rfl (show (-1 : Int32).toInt = -1 from rfl)).mp c23) | (have t24 : r18.toInt = (-1 : Int32).toInt := (i_eq rfl rfl).mp c23) | skip
      have t25 : (0 : Int32).toInt = 0 := rfl
      exact hQ (0 : Int32) I20 L21 w_I20 q_I20 
    · skip
      first | (have t26 : ¬ (r18.toInt = (-1)) := (not_congr (i_eq rfl (show (-1 : Int32).toInt = -1 from rfl))).mp c23) | (have t26 : ¬ (r18.toInt = (-1 : Int32).toInt) := (not_congr (i_eq rfl rfl)).mp c23) | skip
      have t27 : (44 : Int32).toInt = 44 := rfl
      refine s_X9_readMark w_I20 v0 v1 (44 : Int32) kv0 kv1   (fun r28 I29 L30 w_I29 f_I29  => ?_)
      have q_I29 : FR Ws_X9_readLine Z I Z I29 := q_I20.trans w_I.1 w_I.2.1 (f_I29.mono (by decide))
      have u31 : (I29 v0 5).toInt = (I20 v0 5).toInt := by rw [f_I29.2.2.1 v0 9 5 kv0 (by decide) (by decide)]
      have rr28 := i_rng r28
      refine ⟨fun c32 => ?_, fun c32 => ?_⟩
      · skip
        first | (have t33 : ¬ (r28.toInt = (0)) := (not_congr (i_eq rfl (show (0 : Int32).toInt = 0 from rfl))).mp c32) | (have t33 : ¬ (r28.toInt = (0 : Int32).toInt) := (not_congr (i_eq rfl rfl)).mp c32) | skip
        have t34 : (0 : Int32).toInt = 0 := rfl
        have t35 : (9 : Int32).toInt = 9 := rfl
        refine s_X9_readNumber w_I29 v0 v1 (0 : Int32) (9 : Int32) kv0 kv1   (fun r36 I38 L39 w_I38 f_I38 p37 => ?_)
        have q_I38 : FR Ws_X9_readLine Z I Z I38 := q_I29.trans w_I.1 w_I.2.1 (f_I38.mono (by decide))
        have u40 : (I38 v0 5).toInt = (I29 v0 5).toInt := by rw [f_I38.2.2.1 v0 9 5 kv0 (by decide) (by decide)]
        have rr36 := i_rng r36
        refine ⟨fun c41 => ?_, fun c41 => ?_⟩
        · skip
          first | (have t42 : r36.toInt = (-1) := (i_eq rfl (show (-1 : Int32).toInt = -1 from rfl)).mp c41) | (have t42 : r36.toInt = (-1 : Int32).toInt := (i_eq rfl rfl).mp c41) | skip
          have t43 : (0 : Int32).toInt = 0 := rfl
          exact hQ (0 : Int32) I38 L39 w_I38 q_I38 
        · skip
          first | (have t44 : ¬ (r36.toInt = (-1)) := (not_congr (i_eq rfl (show (-1 : Int32).toInt = -1 from rfl))).mp c41) | (have t44 : ¬ (r36.toInt = (-1 : Int32).toInt) := (not_congr (i_eq rfl rfl)).mp c41) | skip
          have t45 : (44 : Int32).toInt = 44 := rfl
          refine s_X9_readMark w_I38 v0 v1 (44 : Int32) kv0 kv1   (fun r46 I47 L48 w_I47 f_I47  => ?_)
          have q_I47 : FR Ws_X9_readLine Z I Z I47 := q_I38.trans w_I.1 w_I.2.1 (f_I47.mono (by decide))
          have u49 : (I47 v0 5).toInt = (I38 v0 5).toInt := by rw [f_I47.2.2.1 v0 9 5 kv0 (by decide) (by decide)]
          have rr46 := i_rng r46
          refine ⟨fun c50 => ?_, fun c50 => ?_⟩
          · skip
            first | (have t51 : ¬ (r46.toInt = (0)) := (not_congr (i_eq rfl (show (0 : Int32).toInt = 0 from rfl))).mp c50) | (have t51 : ¬ (r46.toInt = (0 : Int32).toInt) := (not_congr (i_eq rfl rfl)).mp c50) | skip
            have t52 : (0 : Int32).toInt = 0 := rfl
            have t53 : (20 : Int32).toInt = 20 := rfl
            refine s_X9_readNumber w_I47 v0 v1 (0 : Int32) (20 : Int32) kv0 kv1   (fun r54 I56 L57 w_I56 f_I56 p55 => ?_)
            have q_I56 : FR Ws_X9_readLine Z I Z I56 := q_I47.trans w_I.1 w_I.2.1 (f_I56.mono (by decide))
            have u58 : (I56 v0 5).toInt = (I47 v0 5).toInt := by rw [f_I56.2.2.1 v0 9 5 kv0 (by decide) (by decide)]
            have rr54 := i_rng r54
            refine ⟨fun c59 => ?_, fun c59 => ?_⟩
            · skip
              first | (have t60 : r54.toInt = (-1) := (i_eq rfl (show (-1 : Int32).toInt = -1 from rfl)).mp c59) | (have t60 : r54.toInt = (-1 : Int32).toInt := (i_eq rfl rfl).mp c59) | skip
              have t61 : (0 : Int32).toInt = 0 := rfl
              exact hQ (0 : Int32) I56 L57 w_I56 q_I56 
            · skip
              first | (have t62 : ¬ (r54.toInt = (-1)) := (not_congr (i_eq rfl (show (-1 : Int32).toInt = -1 from rfl))).mp c59) | (have t62 : ¬ (r54.toInt = (-1 : Int32).toInt) := (not_congr (i_eq rfl rfl)).mp c59) | skip
              have t63 : (64 : Int32).toInt = 64 := rfl
              refine s_X9_readMark w_I56 v0 v1 (64 : Int32) kv0 kv1   (fun r64 I65 L66 w_I65 f_I65  => ?_)
              have q_I65 : FR Ws_X9_readLine Z I Z I65 := q_I56.trans w_I.1 w_I.2.1 (f_I65.mono (by decide))
              have u67 : (I65 v0 5).toInt = (I56 v0 5).toInt := by rw [f_I65.2.2.1 v0 9 5 kv0 (by decide) (by decide)]
              have rr64 := i_rng r64
              refine ⟨fun c68 => ?_, fun c68 => ?_⟩
              · skip
                first | (have t69 : ¬ (r64.toInt = (0)) := (not_congr (i_eq rfl (show (0 : Int32).toInt = 0 from rfl))).mp c68) | (have t69 : ¬ (r64.toInt = (0 : Int32).toInt) := (not_congr (i_eq rfl rfl)).mp c68) | skip
                refine s_X9_readFamily w_I65 v0 v1 kv0 kv1   (fun r70 I72 L73 w_I72 f_I72 p71 => ?_)
                have q_I72 : FR Ws_X9_readLine Z I Z I72 := q_I65.trans w_I.1 w_I.2.1 (f_I72.mono (by decide))
                have u74 : (I72 v0 5).toInt = (I65 v0 5).toInt := by rw [f_I72.2.2.1 v0 9 5 kv0 (by decide) (by decide)]
                have rr70 := i_rng r70
                refine ⟨fun c75 => ?_, fun c75 => ?_⟩
                · skip
                  first | (have t76 : ¬ (r70.toInt = (-1)) := (not_congr (i_eq rfl (show (-1 : Int32).toInt = -1 from rfl))).mp c75) | (have t76 : ¬ (r70.toInt = (-1 : Int32).toInt) := (not_congr (i_eq rfl rfl)).mp c75) | skip
                  refine s_X9_look w_I72 v0 v1 kv0 kv1   (fun r77 p78 => ?_)
                  have rr77 := i_rng r77
                  refine ⟨fun c79 => ?_, fun c79 => ?_⟩
                  · skip
                    first | (have t80 : ¬ (r77.toInt = (119)) := (not_congr (i_eq rfl (show (119 : Int32).toInt = 119 from rfl))).mp c79) | (have t80 : ¬ (r77.toInt = (119 : Int32).toInt) := (not_congr (i_eq rfl rfl)).mp c79) | skip
                    unfold f_X9_readLine_b128
                    intro I81 eI81
                    try (have t82 : ((I72 v0 6) + (0 : Int32)).toInt = ((I72 v0 6).toInt + (0)) := (i_add rfl (show (0 : Int32).toInt = 0 from rfl) (by omega) (by omega)))
                    have w_I81 : WD Z I81 := by rw [eI81]; exact WD_putF w_I72 9 6 kv0 (by decide) (by decide) trivial
                    have f_I81 : FR [(9, 6)] Z I72 Z I81 := by rw [eI81]; exact FR_putF kv0 (by decide) List.mem_cons_self
                    have q_I81 : FR Ws_X9_readLine Z I Z I81 := q_I72.trans w_I.1 w_I.2.1 (f_I81.mono (by decide))
                    have u83 : (I81 v0 5).toInt = (I72 v0 5).toInt := by rw [f_I81.2.2.1 v0 9 5 kv0 (by decide) (by decide)]
                    first | (have u84 : (I81 v0 6).toInt = ((I72 v0 6).toInt + (0)) := by (rw [eI81, show jpI I72 v0 6 ((I72 v0 6) + (0 : Int32)) v0 6 = ((I72 v0 6) + (0 : Int32)) from jpI_at] <;> exact (i_add rfl (show (0 : Int32).toInt = 0 from rfl) (by omega) (by omega)))) | skip
                    refine s_X9_readTimes w_I81 v0 v1 kv0 kv1   (fun r85 I87 L88 w_I87 f_I87 p86 => ?_)
                    have q_I87 : FR Ws_X9_readLine Z I Z I87 := q_I81.trans w_I.1 w_I.2.1 (f_I87.mono (by decide))
                    have u89 : (I87 v0 5).toInt = (I81 v0 5).toInt := by rw [f_I87.2.2.1 v0 9 5 kv0 (by decide) (by decide)]
                    have rr85 := i_rng r85
                    have t90 : (0 : Int32).toInt = 0 := rfl
                    have t91 : (0 : Int32).toInt = 0 := rfl
                    exact ⟨(24 - (0 : Int32).toInt).toNat + 1, l_X9_readLine_L151 w_I v0 v1 kv0 kv1 r18 r36 r54 r70 (0 : Int32) r85  hQ   _ (0 : Int32) I87 L88 w_I87 q_I87   (by omega)  (by omega)⟩
                  · skip
                    first | (have t92 : r77.toInt = (119) := (i_eq rfl (show (119 : Int32).toInt = 119 from rfl)).mp c79) | (have t92 : r77.toInt = (119 : Int32).toInt := (i_eq rfl rfl).mp c79) | skip
                    unfold f_X9_readLine_b128
                    intro I93 eI93
                    try (have t94 : ((I72 v0 6) + (1 : Int32)).toInt = ((I72 v0 6).toInt + (1)) := (i_add rfl (show (1 : Int32).toInt = 1 from rfl) (by omega) (by omega)))
                    have w_I93 : WD Z I93 := by rw [eI93]; exact WD_putF w_I72 9 6 kv0 (by decide) (by decide) trivial
                    have f_I93 : FR [(9, 6)] Z I72 Z I93 := by rw [eI93]; exact FR_putF kv0 (by decide) List.mem_cons_self
                    have q_I93 : FR Ws_X9_readLine Z I Z I93 := q_I72.trans w_I.1 w_I.2.1 (f_I93.mono (by decide))
                    have u95 : (I93 v0 5).toInt = (I72 v0 5).toInt := by rw [f_I93.2.2.1 v0 9 5 kv0 (by decide) (by decide)]
                    first | (have u96 : (I93 v0 6).toInt = ((I72 v0 6).toInt + (1)) := by (rw [eI93, show jpI I72 v0 6 ((I72 v0 6) + (1 : Int32)) v0 6 = ((I72 v0 6) + (1 : Int32)) from jpI_at] <;> exact (i_add rfl (show (1 : Int32).toInt = 1 from rfl) (by omega) (by omega)))) | skip
                    refine s_X9_readTimes w_I93 v0 v1 kv0 kv1   (fun r97 I99 L100 w_I99 f_I99 p98 => ?_)
                    have q_I99 : FR Ws_X9_readLine Z I Z I99 := q_I93.trans w_I.1 w_I.2.1 (f_I99.mono (by decide))
                    have u101 : (I99 v0 5).toInt = (I93 v0 5).toInt := by rw [f_I99.2.2.1 v0 9 5 kv0 (by decide) (by decide)]
                    have rr97 := i_rng r97
                    have t102 : (1 : Int32).toInt = 1 := rfl
                    have t103 : (0 : Int32).toInt = 0 := rfl
                    exact ⟨(24 - (0 : Int32).toInt).toNat + 1, l_X9_readLine_L151 w_I v0 v1 kv0 kv1 r18 r36 r54 r70 (1 : Int32) r97  hQ   _ (0 : Int32) I99 L100 w_I99 q_I99   (by omega)  (by omega)⟩
                · skip
                  first | (have t104 : r70.toInt = (-1) := (i_eq rfl (show (-1 : Int32).toInt = -1 from rfl)).mp c75) | (have t104 : r70.toInt = (-1 : Int32).toInt := (i_eq rfl rfl).mp c75) | skip
                  have t105 : (0 : Int32).toInt = 0 := rfl
                  exact hQ (0 : Int32) I72 L73 w_I72 q_I72 
              · skip
                first | (have t106 : r64.toInt = (0) := (i_eq rfl (show (0 : Int32).toInt = 0 from rfl)).mp c68) | (have t106 : r64.toInt = (0 : Int32).toInt := (i_eq rfl rfl).mp c68) | skip
                have t107 : (0 : Int32).toInt = 0 := rfl
                exact hQ (0 : Int32) I65 L66 w_I65 q_I65 
          · skip
            first | (have t108 : r46.toInt = (0) := (i_eq rfl (show (0 : Int32).toInt = 0 from rfl)).mp c50) | (have t108 : r46.toInt = (0 : Int32).toInt := (i_eq rfl rfl).mp c50) | skip
            have t109 : (0 : Int32).toInt = 0 := rfl
            exact hQ (0 : Int32) I47 L48 w_I47 q_I47 
      · skip
        first | (have t110 : r28.toInt = (0) := (i_eq rfl (show (0 : Int32).toInt = 0 from rfl)).mp c32) | (have t110 : r28.toInt = (0 : Int32).toInt := (i_eq rfl rfl).mp c32) | skip
        have t111 : (0 : Int32).toInt = 0 := rfl
        exact hQ (0 : Int32) I29 L30 w_I29 q_I29 
  · skip
    first | (have t112 : ¬ ((I v0 5).toInt < (24)) := (not_congr (i_lt rfl (show (24 : Int32).toInt = 24 from rfl))).mp c14) | (have t112 : ¬ ((I v0 5).toInt < (24 : Int32).toInt) := (not_congr (i_lt rfl rfl)).mp c14) | skip
    refine s_X9_fail w_I v0 (I v0 6) kv0   (fun r113 I114 L115 w_I114 f_I114  => ?_)
    have q_I114 : FR Ws_X9_readLine Z I Z I114 := q_I.trans w_I.1 w_I.2.1 (f_I114.mono (by decide))
    have u116 : (I114 v0 5).toInt = (I v0 5).toInt := by rw [f_I114.2.2.1 v0 9 5 kv0 (by decide) (by decide)]
    have u117 : (I114 v0 6).toInt = (I v0 6).toInt := by rw [f_I114.2.2.1 v0 9 6 kv0 (by decide) (by decide)]
    have rr113 := i_rng r113
    exact hQ r113 I114 L115 w_I114 q_I114 
def Ws_X9_readBreak : List (Nat × Nat) := [(9, 6), (9, 8)]
set_option maxHeartbeats 4000000 in
set_option maxRecDepth 100000 in
theorem s_X9_readBreak {Z : jZ} {I : jI} {L : jL} (w_I : WD Z I) (v0 : Nat) (v1 : Nat) (kv0 : jk Z v0 9) (kv1 : jk Z v1 10) {Q : Int32 → jI → jL → Prop} (hQ : ∀ (r : Int32) (I' : jI) (L' : jL), WD Z I' → FR Ws_X9_readBreak Z I Z I' → Q r I' L') : f_X9_readBreak v0 v1 Z I L Q := by
  unfold f_X9_readBreak
  have q_I : FR Ws_X9_readBreak Z I Z I := FR.rf
  refine ⟨fun c1 => ?_, fun c1 => ?_⟩
  · skip
    first | (have t2 : (I v0 7).toInt ≤ (I v0 6).toInt := (i_le rfl rfl).mp c1) | (have t2 : (I v0 7).toInt ≤ (I v0 6).toInt := (i_le rfl rfl).mp c1) | skip
    have t3 : (0 : Int32).toInt = 0 := rfl
    exact hQ (0 : Int32) I L w_I q_I 
  · skip
    first | (have t4 : ¬ ((I v0 7).toInt ≤ (I v0 6).toInt) := (not_congr (i_le rfl rfl)).mp c1) | (have t4 : ¬ ((I v0 7).toInt ≤ (I v0 6).toInt) := (not_congr (i_le rfl rfl)).mp c1) | skip
    have t5 : (59 : Int32).toInt = 59 := rfl
    refine s_X9_readMark w_I v0 v1 (59 : Int32) kv0 kv1   (fun r6 I7 L8 w_I7 f_I7  => ?_)
    have q_I7 : FR Ws_X9_readBreak Z I Z I7 := q_I.trans w_I.1 w_I.2.1 (f_I7.mono (by decide))
    have u9 : (I7 v0 7).toInt = (I v0 7).toInt := by rw [f_I7.2.2.1 v0 9 7 kv0 (by decide) (by decide)]
    have rr6 := i_rng r6
    refine ⟨fun c10 => ?_, fun c10 => ?_⟩
    · skip
      first | (have t11 : r6.toInt = (0) := (i_eq rfl (show (0 : Int32).toInt = 0 from rfl)).mp c10) | (have t11 : r6.toInt = (0 : Int32).toInt := (i_eq rfl rfl).mp c10) | skip
      have t12 : (0 : Int32).toInt = 0 := rfl
      exact hQ (0 : Int32) I7 L8 w_I7 q_I7 
    · skip
      first | (have t13 : ¬ (r6.toInt = (0)) := (not_congr (i_eq rfl (show (0 : Int32).toInt = 0 from rfl))).mp c10) | (have t13 : ¬ (r6.toInt = (0 : Int32).toInt) := (not_congr (i_eq rfl rfl)).mp c10) | skip
      have t14 : (1 : Int32).toInt = 1 := rfl
      exact hQ (1 : Int32) I7 L8 w_I7 q_I7 
def Ws_X9_read : List (Nat × Nat) := [(9, 0), (9, 1), (9, 2), (9, 3), (9, 4), (9, 5), (9, 6), (9, 7), (9, 8)]
set_option maxHeartbeats 4000000 in
set_option maxRecDepth 100000 in
theorem l_X9_read_L43 {Z : jZ} {I0 : jI} {Q : Int32 → jI → jL → Prop} (w0 : WD Z I0) (v0 : Nat) (v1 : Nat) (kv0 : jk Z v0 9) (kv1 : jk Z v1 10) (hQ : ∀ (r : Int32) (I' : jI) (L' : jL), WD Z I' → FR Ws_X9_read Z I0 Z I' → Q r I' L') : ∀ (n : Nat) (v2 : Int32) (v3 : Int32) (I : jI) (L : jL), WD Z I → FR Ws_X9_read Z I0 Z I →   (0 ≤ v3.toInt ∧ v3.toInt ≤ 76) → 76 - v3.toInt < (n : Int) → f_X9_read_L43  Z Q n v0 v1 v2 v3 I L := by
  intro n
  induction n with
  | zero =>
    intro v2 v3 I L w_I q_I   li  me
    exfalso
    omega
  | succ n ih =>
    intro v2 v3 I L w_I q_I   li  me
    unfold f_X9_read_L43
    have rv2 := i_rng v2
    have rv3 := i_rng v3
    refine ⟨fun c1 => ?_, fun c1 => ?_⟩
    · skip
      first | (have t2 : v2.toInt = (0) := (i_eq rfl (show (0 : Int32).toInt = 0 from rfl)).mp c1) | (have t2 : v2.toInt = (0 : Int32).toInt := (i_eq rfl rfl).mp c1) | skip
      unfold f_X9_read_b81
      refine ⟨fun c3 => ?_, fun c3 => ?_⟩
      · skip
        first | (have t4 : ¬ ((I v0 8).toInt = (-1)) := (not_congr (i_eq rfl (show (-1 : Int32).toInt = -1 from rfl))).mp c3) | (have t4 : ¬ ((I v0 8).toInt = (-1 : Int32).toInt) := (not_congr (i_eq rfl rfl)).mp c3) | skip
        unfold f_X9_read_b104
        refine ⟨fun c5 => ?_, fun c5 => ?_⟩
        · skip
          first | (have t6 : (I v0 8).toInt = (-1) := (i_eq rfl (show (-1 : Int32).toInt = -1 from rfl)).mp c5) | (have t6 : (I v0 8).toInt = (-1 : Int32).toInt := (i_eq rfl rfl).mp c5) | skip
          have t8 : 0 ≤ (I v0 5).toInt ∧ (I v0 5).toInt ≤ 24 := w_I.fld 9 5 kv0 (by decide)
          refine ⟨fun c9 => ?_, fun c9 => ?_⟩
          · skip
            first | (have t10 : (2) ≤ (I v0 5).toInt := (i_le (show (2 : Int32).toInt = 2 from rfl) rfl).mp c9) | (have t10 : (2 : Int32).toInt ≤ (I v0 5).toInt := (i_le rfl rfl).mp c9) | skip
            have t12 : 0 ≤ (I v0 5).toInt ∧ (I v0 5).toInt ≤ 24 := w_I.fld 9 5 kv0 (by decide)
            exact hQ (I v0 5) I L w_I q_I 
          · skip
            first | (have t13 : ¬ ((2) ≤ (I v0 5).toInt) := (not_congr (i_le (show (2 : Int32).toInt = 2 from rfl) rfl)).mp c9) | (have t13 : ¬ ((2 : Int32).toInt ≤ (I v0 5).toInt) := (not_congr (i_le rfl rfl)).mp c9) | skip
            have t14 : (-100 : Int32).toInt = -100 := rfl
            exact hQ (-100 : Int32) I L w_I q_I 
        · skip
          first | (have t15 : ¬ ((I v0 8).toInt = (-1)) := (not_congr (i_eq rfl (show (-1 : Int32).toInt = -1 from rfl))).mp c5) | (have t15 : ¬ ((I v0 8).toInt = (-1 : Int32).toInt) := (not_congr (i_eq rfl rfl)).mp c5) | skip
          try (have t16 : ((-1 : Int32) - (I v0 8)).toInt = ((-1) - (I v0 8).toInt) := (i_sub (show (-1 : Int32).toInt = -1 from rfl) rfl (by omega) (by omega)))
          exact hQ ((-1 : Int32) - (I v0 8)) I L w_I q_I 
      · skip
        first | (have t17 : (I v0 8).toInt = (-1) := (i_eq rfl (show (-1 : Int32).toInt = -1 from rfl)).mp c3) | (have t17 : (I v0 8).toInt = (-1 : Int32).toInt := (i_eq rfl rfl).mp c3) | skip
        have t19 : 0 ≤ (I v1 1).toInt ∧ (I v1 1).toInt ≤ 80 := w_I.fld 10 1 kv1 (by decide)
        refine ⟨fun c20 => ?_, fun c20 => ?_⟩
        · skip
          first | (have t21 : (I v1 1).toInt ≤ (76) := (i_le rfl (show (76 : Int32).toInt = 76 from rfl)).mp c20) | (have t21 : (I v1 1).toInt ≤ (76 : Int32).toInt := (i_le rfl rfl).mp c20) | skip
          unfold f_X9_read_b104
          refine ⟨fun c22 => ?_, fun c22 => ?_⟩
          · skip
            first | (have t23 : (I v0 8).toInt = (-1) := (i_eq rfl (show (-1 : Int32).toInt = -1 from rfl)).mp c22) | (have t23 : (I v0 8).toInt = (-1 : Int32).toInt := (i_eq rfl rfl).mp c22) | skip
            have t25 : 0 ≤ (I v0 5).toInt ∧ (I v0 5).toInt ≤ 24 := w_I.fld 9 5 kv0 (by decide)
            refine ⟨fun c26 => ?_, fun c26 => ?_⟩
            · skip
              first | (have t27 : (2) ≤ (I v0 5).toInt := (i_le (show (2 : Int32).toInt = 2 from rfl) rfl).mp c26) | (have t27 : (2 : Int32).toInt ≤ (I v0 5).toInt := (i_le rfl rfl).mp c26) | skip
              have t29 : 0 ≤ (I v0 5).toInt ∧ (I v0 5).toInt ≤ 24 := w_I.fld 9 5 kv0 (by decide)
              exact hQ (I v0 5) I L w_I q_I 
            · skip
              first | (have t30 : ¬ ((2) ≤ (I v0 5).toInt) := (not_congr (i_le (show (2 : Int32).toInt = 2 from rfl) rfl)).mp c26) | (have t30 : ¬ ((2 : Int32).toInt ≤ (I v0 5).toInt) := (not_congr (i_le rfl rfl)).mp c26) | skip
              have t31 : (-100 : Int32).toInt = -100 := rfl
              exact hQ (-100 : Int32) I L w_I q_I 
          · skip
            first | (have t32 : ¬ ((I v0 8).toInt = (-1)) := (not_congr (i_eq rfl (show (-1 : Int32).toInt = -1 from rfl))).mp c22) | (have t32 : ¬ ((I v0 8).toInt = (-1 : Int32).toInt) := (not_congr (i_eq rfl rfl)).mp c22) | skip
            try (have t33 : ((-1 : Int32) - (I v0 8)).toInt = ((-1) - (I v0 8).toInt) := (i_sub (show (-1 : Int32).toInt = -1 from rfl) rfl (by omega) (by omega)))
            exact hQ ((-1 : Int32) - (I v0 8)) I L w_I q_I 
        · skip
          first | (have t34 : ¬ ((I v1 1).toInt ≤ (76)) := (not_congr (i_le rfl (show (76 : Int32).toInt = 76 from rfl))).mp c20) | (have t34 : ¬ ((I v1 1).toInt ≤ (76 : Int32).toInt) := (not_congr (i_le rfl rfl)).mp c20) | skip
          intro I35 eI35
          have t36 : (76 : Int32).toInt = 76 := rfl
          have w_I35 : WD Z I35 := by rw [eI35]; exact WD_putF w_I 9 8 kv0 (by decide) (by decide) trivial
          have f_I35 : FR [(9, 8)] Z I Z I35 := by rw [eI35]; exact FR_putF kv0 (by decide) List.mem_cons_self
          have q_I35 : FR Ws_X9_read Z I0 Z I35 := q_I.trans w0.1 w0.2.1 (f_I35.mono (by decide))
          have u37 : (I35 v1 1).toInt = (I v1 1).toInt := by rw [f_I35.2.2.1 v1 10 1 kv1 (by decide) (by decide)]
          first | (have u38 : (I35 v0 8).toInt = (76) := by (rw [eI35, show jpI I v0 8 (76 : Int32) v0 8 = (76 : Int32) from jpI_at] <;> exact (show (76 : Int32).toInt = 76 from rfl))) | skip
          unfold f_X9_read_b104
          refine ⟨fun c39 => ?_, fun c39 => ?_⟩
          · skip
            first | (have t40 : (I35 v0 8).toInt = (-1) := (i_eq rfl (show (-1 : Int32).toInt = -1 from rfl)).mp c39) | (have t40 : (I35 v0 8).toInt = (-1 : Int32).toInt := (i_eq rfl rfl).mp c39) | skip
            have t42 : 0 ≤ (I35 v0 5).toInt ∧ (I35 v0 5).toInt ≤ 24 := w_I35.fld 9 5 kv0 (by decide)
            refine ⟨fun c43 => ?_, fun c43 => ?_⟩
            · skip
              first | (have t44 : (2) ≤ (I35 v0 5).toInt := (i_le (show (2 : Int32).toInt = 2 from rfl) rfl).mp c43) | (have t44 : (2 : Int32).toInt ≤ (I35 v0 5).toInt := (i_le rfl rfl).mp c43) | skip
              have t46 : 0 ≤ (I35 v0 5).toInt ∧ (I35 v0 5).toInt ≤ 24 := w_I35.fld 9 5 kv0 (by decide)
              exact hQ (I35 v0 5) I35 L w_I35 q_I35 
            · skip
              first | (have t47 : ¬ ((2) ≤ (I35 v0 5).toInt) := (not_congr (i_le (show (2 : Int32).toInt = 2 from rfl) rfl)).mp c43) | (have t47 : ¬ ((2 : Int32).toInt ≤ (I35 v0 5).toInt) := (not_congr (i_le rfl rfl)).mp c43) | skip
              have t48 : (-100 : Int32).toInt = -100 := rfl
              exact hQ (-100 : Int32) I35 L w_I35 q_I35 
          · skip
            first | (have t49 : ¬ ((I35 v0 8).toInt = (-1)) := (not_congr (i_eq rfl (show (-1 : Int32).toInt = -1 from rfl))).mp c39) | (have t49 : ¬ ((I35 v0 8).toInt = (-1 : Int32).toInt) := (not_congr (i_eq rfl rfl)).mp c39) | skip
            try (have t50 : ((-1 : Int32) - (I35 v0 8)).toInt = ((-1) - (I35 v0 8).toInt) := (i_sub (show (-1 : Int32).toInt = -1 from rfl) rfl (by omega) (by omega)))
            exact hQ ((-1 : Int32) - (I35 v0 8)) I35 L w_I35 q_I35 
    · skip
      first | (have t51 : ¬ (v2.toInt = (0)) := (not_congr (i_eq rfl (show (0 : Int32).toInt = 0 from rfl))).mp c1) | (have t51 : ¬ (v2.toInt = (0 : Int32).toInt) := (not_congr (i_eq rfl rfl)).mp c1) | skip
      refine ⟨fun c52 => ?_, fun c52 => ?_⟩
      · skip
        first | (have t53 : (76) ≤ v3.toInt := (i_le (show (76 : Int32).toInt = 76 from rfl) rfl).mp c52) | (have t53 : (76 : Int32).toInt ≤ v3.toInt := (i_le rfl rfl).mp c52) | skip
        unfold f_X9_read_b81
        refine ⟨fun c54 => ?_, fun c54 => ?_⟩
        · skip
          first | (have t55 : ¬ ((I v0 8).toInt = (-1)) := (not_congr (i_eq rfl (show (-1 : Int32).toInt = -1 from rfl))).mp c54) | (have t55 : ¬ ((I v0 8).toInt = (-1 : Int32).toInt) := (not_congr (i_eq rfl rfl)).mp c54) | skip
          unfold f_X9_read_b104
          refine ⟨fun c56 => ?_, fun c56 => ?_⟩
          · skip
            first | (have t57 : (I v0 8).toInt = (-1) := (i_eq rfl (show (-1 : Int32).toInt = -1 from rfl)).mp c56) | (have t57 : (I v0 8).toInt = (-1 : Int32).toInt := (i_eq rfl rfl).mp c56) | skip
            have t59 : 0 ≤ (I v0 5).toInt ∧ (I v0 5).toInt ≤ 24 := w_I.fld 9 5 kv0 (by decide)
            refine ⟨fun c60 => ?_, fun c60 => ?_⟩
            · skip
              first | (have t61 : (2) ≤ (I v0 5).toInt := (i_le (show (2 : Int32).toInt = 2 from rfl) rfl).mp c60) | (have t61 : (2 : Int32).toInt ≤ (I v0 5).toInt := (i_le rfl rfl).mp c60) | skip
              have t63 : 0 ≤ (I v0 5).toInt ∧ (I v0 5).toInt ≤ 24 := w_I.fld 9 5 kv0 (by decide)
              exact hQ (I v0 5) I L w_I q_I 
            · skip
              first | (have t64 : ¬ ((2) ≤ (I v0 5).toInt) := (not_congr (i_le (show (2 : Int32).toInt = 2 from rfl) rfl)).mp c60) | (have t64 : ¬ ((2 : Int32).toInt ≤ (I v0 5).toInt) := (not_congr (i_le rfl rfl)).mp c60) | skip
              have t65 : (-100 : Int32).toInt = -100 := rfl
              exact hQ (-100 : Int32) I L w_I q_I 
          · skip
            first | (have t66 : ¬ ((I v0 8).toInt = (-1)) := (not_congr (i_eq rfl (show (-1 : Int32).toInt = -1 from rfl))).mp c56) | (have t66 : ¬ ((I v0 8).toInt = (-1 : Int32).toInt) := (not_congr (i_eq rfl rfl)).mp c56) | skip
            try (have t67 : ((-1 : Int32) - (I v0 8)).toInt = ((-1) - (I v0 8).toInt) := (i_sub (show (-1 : Int32).toInt = -1 from rfl) rfl (by omega) (by omega)))
            exact hQ ((-1 : Int32) - (I v0 8)) I L w_I q_I 
        · skip
          first | (have t68 : (I v0 8).toInt = (-1) := (i_eq rfl (show (-1 : Int32).toInt = -1 from rfl)).mp c54) | (have t68 : (I v0 8).toInt = (-1 : Int32).toInt := (i_eq rfl rfl).mp c54) | skip
          have t70 : 0 ≤ (I v1 1).toInt ∧ (I v1 1).toInt ≤ 80 := w_I.fld 10 1 kv1 (by decide)
          refine ⟨fun c71 => ?_, fun c71 => ?_⟩
          · skip
            first | (have t72 : (I v1 1).toInt ≤ (76) := (i_le rfl (show (76 : Int32).toInt = 76 from rfl)).mp c71) | (have t72 : (I v1 1).toInt ≤ (76 : Int32).toInt := (i_le rfl rfl).mp c71) | skip
            unfold f_X9_read_b104
            refine ⟨fun c73 => ?_, fun c73 => ?_⟩
            · skip
              first | (have t74 : (I v0 8).toInt = (-1) := (i_eq rfl (show (-1 : Int32).toInt = -1 from rfl)).mp c73) | (have t74 : (I v0 8).toInt = (-1 : Int32).toInt := (i_eq rfl rfl).mp c73) | skip
              have t76 : 0 ≤ (I v0 5).toInt ∧ (I v0 5).toInt ≤ 24 := w_I.fld 9 5 kv0 (by decide)
              refine ⟨fun c77 => ?_, fun c77 => ?_⟩
              · skip
                first | (have t78 : (2) ≤ (I v0 5).toInt := (i_le (show (2 : Int32).toInt = 2 from rfl) rfl).mp c77) | (have t78 : (2 : Int32).toInt ≤ (I v0 5).toInt := (i_le rfl rfl).mp c77) | skip
                have t80 : 0 ≤ (I v0 5).toInt ∧ (I v0 5).toInt ≤ 24 := w_I.fld 9 5 kv0 (by decide)
                exact hQ (I v0 5) I L w_I q_I 
              · skip
                first | (have t81 : ¬ ((2) ≤ (I v0 5).toInt) := (not_congr (i_le (show (2 : Int32).toInt = 2 from rfl) rfl)).mp c77) | (have t81 : ¬ ((2 : Int32).toInt ≤ (I v0 5).toInt) := (not_congr (i_le rfl rfl)).mp c77) | skip
                have t82 : (-100 : Int32).toInt = -100 := rfl
                exact hQ (-100 : Int32) I L w_I q_I 
            · skip
              first | (have t83 : ¬ ((I v0 8).toInt = (-1)) := (not_congr (i_eq rfl (show (-1 : Int32).toInt = -1 from rfl))).mp c73) | (have t83 : ¬ ((I v0 8).toInt = (-1 : Int32).toInt) := (not_congr (i_eq rfl rfl)).mp c73) | skip
              try (have t84 : ((-1 : Int32) - (I v0 8)).toInt = ((-1) - (I v0 8).toInt) := (i_sub (show (-1 : Int32).toInt = -1 from rfl) rfl (by omega) (by omega)))
              exact hQ ((-1 : Int32) - (I v0 8)) I L w_I q_I 
          · skip
            first | (have t85 : ¬ ((I v1 1).toInt ≤ (76)) := (not_congr (i_le rfl (show (76 : Int32).toInt = 76 from rfl))).mp c71) | (have t85 : ¬ ((I v1 1).toInt ≤ (76 : Int32).toInt) := (not_congr (i_le rfl rfl)).mp c71) | skip
            intro I86 eI86
            have t87 : (76 : Int32).toInt = 76 := rfl
            have w_I86 : WD Z I86 := by rw [eI86]; exact WD_putF w_I 9 8 kv0 (by decide) (by decide) trivial
            have f_I86 : FR [(9, 8)] Z I Z I86 := by rw [eI86]; exact FR_putF kv0 (by decide) List.mem_cons_self
            have q_I86 : FR Ws_X9_read Z I0 Z I86 := q_I.trans w0.1 w0.2.1 (f_I86.mono (by decide))
            have u88 : (I86 v1 1).toInt = (I v1 1).toInt := by rw [f_I86.2.2.1 v1 10 1 kv1 (by decide) (by decide)]
            first | (have u89 : (I86 v0 8).toInt = (76) := by (rw [eI86, show jpI I v0 8 (76 : Int32) v0 8 = (76 : Int32) from jpI_at] <;> exact (show (76 : Int32).toInt = 76 from rfl))) | skip
            unfold f_X9_read_b104
            refine ⟨fun c90 => ?_, fun c90 => ?_⟩
            · skip
              first | (have t91 : (I86 v0 8).toInt = (-1) := (i_eq rfl (show (-1 : Int32).toInt = -1 from rfl)).mp c90) | (have t91 : (I86 v0 8).toInt = (-1 : Int32).toInt := (i_eq rfl rfl).mp c90) | skip
              have t93 : 0 ≤ (I86 v0 5).toInt ∧ (I86 v0 5).toInt ≤ 24 := w_I86.fld 9 5 kv0 (by decide)
              refine ⟨fun c94 => ?_, fun c94 => ?_⟩
              · skip
                first | (have t95 : (2) ≤ (I86 v0 5).toInt := (i_le (show (2 : Int32).toInt = 2 from rfl) rfl).mp c94) | (have t95 : (2 : Int32).toInt ≤ (I86 v0 5).toInt := (i_le rfl rfl).mp c94) | skip
                have t97 : 0 ≤ (I86 v0 5).toInt ∧ (I86 v0 5).toInt ≤ 24 := w_I86.fld 9 5 kv0 (by decide)
                exact hQ (I86 v0 5) I86 L w_I86 q_I86 
              · skip
                first | (have t98 : ¬ ((2) ≤ (I86 v0 5).toInt) := (not_congr (i_le (show (2 : Int32).toInt = 2 from rfl) rfl)).mp c94) | (have t98 : ¬ ((2 : Int32).toInt ≤ (I86 v0 5).toInt) := (not_congr (i_le rfl rfl)).mp c94) | skip
                have t99 : (-100 : Int32).toInt = -100 := rfl
                exact hQ (-100 : Int32) I86 L w_I86 q_I86 
            · skip
              first | (have t100 : ¬ ((I86 v0 8).toInt = (-1)) := (not_congr (i_eq rfl (show (-1 : Int32).toInt = -1 from rfl))).mp c90) | (have t100 : ¬ ((I86 v0 8).toInt = (-1 : Int32).toInt) := (not_congr (i_eq rfl rfl)).mp c90) | skip
              try (have t101 : ((-1 : Int32) - (I86 v0 8)).toInt = ((-1) - (I86 v0 8).toInt) := (i_sub (show (-1 : Int32).toInt = -1 from rfl) rfl (by omega) (by omega)))
              exact hQ ((-1 : Int32) - (I86 v0 8)) I86 L w_I86 q_I86 
      · skip
        first | (have t102 : ¬ ((76) ≤ v3.toInt) := (not_congr (i_le (show (76 : Int32).toInt = 76 from rfl) rfl)).mp c52) | (have t102 : ¬ ((76 : Int32).toInt ≤ v3.toInt) := (not_congr (i_le rfl rfl)).mp c52) | skip
        refine s_X9_readLine w_I v0 v1 kv0 kv1   (fun r103 I104 L105 w_I104 f_I104  => ?_)
        have q_I104 : FR Ws_X9_read Z I0 Z I104 := q_I.trans w0.1 w0.2.1 (f_I104.mono (by decide))
        have rr103 := i_rng r103
        refine ⟨fun c106 => ?_, fun c106 => ?_⟩
        · skip
          first | (have t107 : r103.toInt = (0) := (i_eq rfl (show (0 : Int32).toInt = 0 from rfl)).mp c106) | (have t107 : r103.toInt = (0 : Int32).toInt := (i_eq rfl rfl).mp c106) | skip
          unfold f_X9_read_b73
          unfold f_X9_read_b74
          intro x108 ex108
          have rx108 := i_rng x108
          first | (have tx108 : x108.toInt = v3.toInt + (1) := by (rw [ex108]; exact (i_add rfl (show (1 : Int32).toInt = 1 from rfl) (by omega) (by omega)))) | skip
          have t109 : (0 : Int32).toInt = 0 := rfl
          exact ih (0 : Int32) x108 I104 L105 w_I104 q_I104   (by omega)  (by omega)
        · skip
          first | (have t110 : ¬ (r103.toInt = (0)) := (not_congr (i_eq rfl (show (0 : Int32).toInt = 0 from rfl))).mp c106) | (have t110 : ¬ (r103.toInt = (0 : Int32).toInt) := (not_congr (i_eq rfl rfl)).mp c106) | skip
          refine s_X9_readBreak w_I104 v0 v1 kv0 kv1   (fun r111 I112 L113 w_I112 f_I112  => ?_)
          have q_I112 : FR Ws_X9_read Z I0 Z I112 := q_I104.trans w0.1 w0.2.1 (f_I112.mono (by decide))
          have rr111 := i_rng r111
          refine ⟨fun c114 => ?_, fun c114 => ?_⟩
          · skip
            first | (have t115 : r111.toInt = (0) := (i_eq rfl (show (0 : Int32).toInt = 0 from rfl)).mp c114) | (have t115 : r111.toInt = (0 : Int32).toInt := (i_eq rfl rfl).mp c114) | skip
            unfold f_X9_read_b73
            unfold f_X9_read_b74
            intro x116 ex116
            have rx116 := i_rng x116
            first | (have tx116 : x116.toInt = v3.toInt + (1) := by (rw [ex116]; exact (i_add rfl (show (1 : Int32).toInt = 1 from rfl) (by omega) (by omega)))) | skip
            have t117 : (0 : Int32).toInt = 0 := rfl
            exact ih (0 : Int32) x116 I112 L113 w_I112 q_I112   (by omega)  (by omega)
          · skip
            first | (have t118 : ¬ (r111.toInt = (0)) := (not_congr (i_eq rfl (show (0 : Int32).toInt = 0 from rfl))).mp c114) | (have t118 : ¬ (r111.toInt = (0 : Int32).toInt) := (not_congr (i_eq rfl rfl)).mp c114) | skip
            unfold f_X9_read_b74
            intro x119 ex119
            have rx119 := i_rng x119
            first | (have tx119 : x119.toInt = v3.toInt + (1) := by (rw [ex119]; exact (i_add rfl (show (1 : Int32).toInt = 1 from rfl) (by omega) (by omega)))) | skip
            have t120 : (1 : Int32).toInt = 1 := rfl
            exact ih (1 : Int32) x119 I112 L113 w_I112 q_I112   (by omega)  (by omega)
set_option maxHeartbeats 4000000 in
set_option maxRecDepth 100000 in
theorem s_X9_read {Z : jZ} {I : jI} {L : jL} (w_I : WD Z I) (v0 : Nat) (v1 : Nat) (kv0 : jk Z v0 9) (kv1 : jk Z v1 10) {Q : Int32 → jI → jL → Prop} (hQ : ∀ (r : Int32) (I' : jI) (L' : jL), WD Z I' → FR Ws_X9_read Z I Z I' → Q r I' L') : f_X9_read v0 v1 Z I L Q := by
  unfold f_X9_read
  have q_I : FR Ws_X9_read Z I Z I := FR.rf
  intro I121 eI121
  have t122 : (0 : Int32).toInt = 0 := rfl
  have w_I121 : WD Z I121 := by rw [eI121]; exact WD_putF w_I 9 5 kv0 (by decide) (by decide) (by constructor <;> omega)
  have f_I121 : FR [(9, 5)] Z I Z I121 := by rw [eI121]; exact FR_putF kv0 (by decide) List.mem_cons_self
  have q_I121 : FR Ws_X9_read Z I Z I121 := q_I.trans w_I.1 w_I.2.1 (f_I121.mono (by decide))
  first | (have u123 : (I121 v0 5).toInt = (0) := by (rw [eI121, show jpI I v0 5 (0 : Int32) v0 5 = (0 : Int32) from jpI_at] <;> exact (show (0 : Int32).toInt = 0 from rfl))) | skip
  intro I124 eI124
  have t125 : (0 : Int32).toInt = 0 := rfl
  have w_I124 : WD Z I124 := by rw [eI124]; exact WD_putF w_I121 9 6 kv0 (by decide) (by decide) trivial
  have f_I124 : FR [(9, 6)] Z I121 Z I124 := by rw [eI124]; exact FR_putF kv0 (by decide) List.mem_cons_self
  have q_I124 : FR Ws_X9_read Z I Z I124 := q_I121.trans w_I.1 w_I.2.1 (f_I124.mono (by decide))
  have u126 : (I124 v0 5).toInt = (I121 v0 5).toInt := by rw [f_I124.2.2.1 v0 9 5 kv0 (by decide) (by decide)]
  first | (have u127 : (I124 v0 6).toInt = (0) := by (rw [eI124, show jpI I121 v0 6 (0 : Int32) v0 6 = (0 : Int32) from jpI_at] <;> exact (show (0 : Int32).toInt = 0 from rfl))) | skip
  intro I128 eI128
  have t129 : (-1 : Int32).toInt = -1 := rfl
  have w_I128 : WD Z I128 := by rw [eI128]; exact WD_putF w_I124 9 8 kv0 (by decide) (by decide) trivial
  have f_I128 : FR [(9, 8)] Z I124 Z I128 := by rw [eI128]; exact FR_putF kv0 (by decide) List.mem_cons_self
  have q_I128 : FR Ws_X9_read Z I Z I128 := q_I124.trans w_I.1 w_I.2.1 (f_I128.mono (by decide))
  have u130 : (I128 v0 5).toInt = (I124 v0 5).toInt := by rw [f_I128.2.2.1 v0 9 5 kv0 (by decide) (by decide)]
  have u131 : (I128 v0 6).toInt = (I124 v0 6).toInt := by rw [f_I128.2.2.1 v0 9 6 kv0 (by decide) (by decide)]
  first | (have u132 : (I128 v0 8).toInt = (-1) := by (rw [eI128, show jpI I124 v0 8 (-1 : Int32) v0 8 = (-1 : Int32) from jpI_at] <;> exact (show (-1 : Int32).toInt = -1 from rfl))) | skip
  have t134 : 0 ≤ (I128 v1 1).toInt ∧ (I128 v1 1).toInt ≤ 80 := w_I128.fld 10 1 kv1 (by decide)
  intro I135 eI135
  try (have t136 : (if (76 : Int32) < (I128 v1 1) then (76 : Int32) else (I128 v1 1)).toInt = (min (I128 v1 1).toInt (76)) := (i_min rfl (show (76 : Int32).toInt = 76 from rfl)))
  have w_I135 : WD Z I135 := by rw [eI135]; exact WD_putF w_I128 9 7 kv0 (by decide) (by decide) trivial
  have f_I135 : FR [(9, 7)] Z I128 Z I135 := by rw [eI135]; exact FR_putF kv0 (by decide) List.mem_cons_self
  have q_I135 : FR Ws_X9_read Z I Z I135 := q_I128.trans w_I.1 w_I.2.1 (f_I135.mono (by decide))
  have u137 : (I135 v0 5).toInt = (I128 v0 5).toInt := by rw [f_I135.2.2.1 v0 9 5 kv0 (by decide) (by decide)]
  have u138 : (I135 v0 6).toInt = (I128 v0 6).toInt := by rw [f_I135.2.2.1 v0 9 6 kv0 (by decide) (by decide)]
  have u139 : (I135 v0 8).toInt = (I128 v0 8).toInt := by rw [f_I135.2.2.1 v0 9 8 kv0 (by decide) (by decide)]
  have u140 : (I135 v1 1).toInt = (I128 v1 1).toInt := by rw [f_I135.2.2.1 v1 10 1 kv1 (by decide) (by decide)]
  first | (have u141 : (I135 v0 7).toInt = (min (I128 v1 1).toInt (76)) := by (rw [eI135, show jpI I128 v0 7 (if (76 : Int32) < (I128 v1 1) then (76 : Int32) else (I128 v1 1)) v0 7 = (if (76 : Int32) < (I128 v1 1) then (76 : Int32) else (I128 v1 1)) from jpI_at] <;> exact (i_min rfl (show (76 : Int32).toInt = 76 from rfl)))) | skip
  have t143 : 0 ≤ (I135 v1 1).toInt ∧ (I135 v1 1).toInt ≤ 80 := w_I135.fld 10 1 kv1 (by decide)
  refine ⟨fun c144 => ?_, fun c144 => ?_⟩
  · skip
    first | (have t145 : (I135 v1 1).toInt ≤ (0) := (i_le rfl (show (0 : Int32).toInt = 0 from rfl)).mp c144) | (have t145 : (I135 v1 1).toInt ≤ (0 : Int32).toInt := (i_le rfl rfl).mp c144) | skip
    unfold f_X9_read_b40
    have t146 : (0 : Int32).toInt = 0 := rfl
    have t147 : (0 : Int32).toInt = 0 := rfl
    exact ⟨(76 - (0 : Int32).toInt).toNat + 1, l_X9_read_L43 w_I v0 v1 kv0 kv1   hQ   _ (0 : Int32) (0 : Int32) I135 L w_I135 q_I135   (by omega)  (by omega)⟩
  · skip
    first | (have t148 : ¬ ((I135 v1 1).toInt ≤ (0)) := (not_congr (i_le rfl (show (0 : Int32).toInt = 0 from rfl))).mp c144) | (have t148 : ¬ ((I135 v1 1).toInt ≤ (0 : Int32).toInt) := (not_congr (i_le rfl rfl)).mp c144) | skip
    unfold f_X9_read_b40
    have t149 : (1 : Int32).toInt = 1 := rfl
    have t150 : (0 : Int32).toInt = 0 := rfl
    exact ⟨(76 - (0 : Int32).toInt).toNat + 1, l_X9_read_L43 w_I v0 v1 kv0 kv1   hQ   _ (1 : Int32) (0 : Int32) I135 L w_I135 q_I135   (by omega)  (by omega)⟩
def Ws_X10_append : List (Nat × Nat) := [(10, 0), (10, 1)]
set_option maxHeartbeats 4000000 in
set_option maxRecDepth 100000 in
theorem l_X10_append_L16 {Z : jZ} {I0 : jI} {Q : Int32 → jI → jL → Prop} (w0 : WD Z I0) (v0 : Nat) (v1 : Int32) (kv0 : jk Z v0 10) (hQ : ∀ (r : Int32) (I' : jI) (L' : jL), WD Z I' → FR Ws_X10_append Z I0 Z I' → Q r I' L') : ∀ (n : Nat) (v2 : Int32) (I : jI) (L : jL), WD Z I → FR Ws_X10_append Z I0 Z I →   (-8 ≤ v2.toInt ∧ v2.toInt ≤ 24 ∧ v2.toInt % 8 = 0 ∧ (I v0 1).toInt + (v2.toInt + 8) / 8 ≤ 80) → v2.toInt + 8 < (n : Int) → f_X10_append_L16  Z Q n v0 v1 v2 I L := by
  intro n
  induction n with
  | zero =>
    intro v2 I L w_I q_I   li  me
    exfalso
    omega
  | succ n ih =>
    intro v2 I L w_I q_I   li  me
    unfold f_X10_append_L16
    have rv2 := i_rng v2
    have rv1 := i_rng v1
    have t1 : 0 ≤ (I v0 1).toInt ∧ (I v0 1).toInt ≤ 80 := w_I.fld 10 1 kv0 (by decide)
    refine ⟨fun c2 => ?_, fun c2 => ?_⟩
    · skip
      first | (have t3 : v2.toInt < (0) := (i_lt rfl (show (0 : Int32).toInt = 0 from rfl)).mp c2) | (have t3 : v2.toInt < (0 : Int32).toInt := (i_lt rfl rfl).mp c2) | skip
      have t4 : (1 : Int32).toInt = 1 := rfl
      exact hQ (1 : Int32) I L w_I q_I 
    · skip
      first | (have t5 : ¬ (v2.toInt < (0)) := (not_congr (i_lt rfl (show (0 : Int32).toInt = 0 from rfl))).mp c2) | (have t5 : ¬ (v2.toInt < (0 : Int32).toInt) := (not_congr (i_lt rfl rfl)).mp c2) | skip
      intro b6 eb6
      obtain ⟨x7, ex7, kb6, lb6⟩ := sh_f w_I.1 kv0 (j := 0) (k := 13) (m := 80) rfl
      cases eb6.symm.trans ex7
      have t9 : 0 ≤ (I v0 1).toInt ∧ (I v0 1).toInt ≤ 80 := w_I.fld 10 1 kv0 (by decide)
      have o10 : vp_in (I v0 1) 80 := vi_of rfl (by omega) (by omega)
      refine ⟨o10, ?_⟩
      intro I11 eI11
      have w_I11 : WD Z I11 := by rw [eI11]; exact WD_putA w_I 10 0 kv0 eb6 kb6 rfl rfl (by decide) trivial
      have f_I11 : FR [(10, 0)] Z I Z I11 := by rw [eI11]; exact FR_upA w_I.2.1 kv0 eb6 kb6 rfl rfl List.mem_cons_self
      have q_I11 : FR Ws_X10_append Z I0 Z I11 := q_I.trans w0.1 w0.2.1 (f_I11.mono (by decide))
      have u12 : (I11 v0 1).toInt = (I v0 1).toInt := by rw [f_I11.2.2.1 v0 10 1 kv0 (by decide) (by decide)]
      have t14 : 0 ≤ (I11 v0 1).toInt ∧ (I11 v0 1).toInt ≤ 80 := w_I11.fld 10 1 kv0 (by decide)
      intro I15 eI15
      try (have t16 : ((I11 v0 1) + (1 : Int32)).toInt = ((I11 v0 1).toInt + (1)) := (i_add rfl (show (1 : Int32).toInt = 1 from rfl) (by omega) (by omega)))
      have w_I15 : WD Z I15 := by rw [eI15]; exact WD_putF w_I11 10 1 kv0 (by decide) (by decide) (by constructor <;> omega)
      have f_I15 : FR [(10, 1)] Z I11 Z I15 := by rw [eI15]; exact FR_putF kv0 (by decide) List.mem_cons_self
      have q_I15 : FR Ws_X10_append Z I0 Z I15 := q_I11.trans w0.1 w0.2.1 (f_I15.mono (by decide))
      first | (have u17 : (I15 v0 1).toInt = ((I11 v0 1).toInt + (1)) := by (rw [eI15, show jpI I11 v0 1 ((I11 v0 1) + (1 : Int32)) v0 1 = ((I11 v0 1) + (1 : Int32)) from jpI_at] <;> exact (i_add rfl (show (1 : Int32).toInt = 1 from rfl) (by omega) (by omega)))) | skip
      intro x18 ex18
      have rx18 := i_rng x18
      first | (have tx18 : x18.toInt = v2.toInt + (-8) := by (rw [ex18]; exact (i_add rfl (show (-8 : Int32).toInt = -8 from rfl) (by omega) (by omega)))) | skip
      exact ih x18 I15 L w_I15 q_I15   (by omega)  (by omega)
set_option maxHeartbeats 4000000 in
set_option maxRecDepth 100000 in
theorem s_X10_append {Z : jZ} {I : jI} {L : jL} (w_I : WD Z I) (v0 : Nat) (v1 : Int32) (kv0 : jk Z v0 10) {Q : Int32 → jI → jL → Prop} (hQ : ∀ (r : Int32) (I' : jI) (L' : jL), WD Z I' → FR Ws_X10_append Z I Z I' → Q r I' L') : f_X10_append v0 v1 Z I L Q := by
  unfold f_X10_append
  have q_I : FR Ws_X10_append Z I Z I := FR.rf
  have rv1 := i_rng v1
  have t19 : 0 ≤ (I v0 1).toInt ∧ (I v0 1).toInt ≤ 80 := w_I.fld 10 1 kv0 (by decide)
  have t21 : 0 ≤ (I v0 1).toInt ∧ (I v0 1).toInt ≤ 80 := w_I.fld 10 1 kv0 (by decide)
  refine ⟨fun c22 => ?_, fun c22 => ?_⟩
  · skip
    first | (have t23 : ((I v0 1).toInt + (4)) ≤ (80) := (i_le (i_add rfl (show (4 : Int32).toInt = 4 from rfl) (by omega) (by omega)) (show (80 : Int32).toInt = 80 from rfl)).mp c22) | (have t23 : ((I v0 1) + (4 : Int32)).toInt ≤ (80 : Int32).toInt := (i_le rfl rfl).mp c22) | skip
    have t24 : (24 : Int32).toInt = 24 := rfl
    exact ⟨((24 : Int32).toInt + 8).toNat + 1, l_X10_append_L16 w_I v0 v1 kv0   hQ   _ (24 : Int32) I L w_I q_I   (by omega)  (by omega)⟩
  · skip
    first | (have t25 : ¬ (((I v0 1).toInt + (4)) ≤ (80)) := (not_congr (i_le (i_add rfl (show (4 : Int32).toInt = 4 from rfl) (by omega) (by omega)) (show (80 : Int32).toInt = 80 from rfl))).mp c22) | (have t25 : ¬ (((I v0 1) + (4 : Int32)).toInt ≤ (80 : Int32).toInt) := (not_congr (i_le rfl rfl)).mp c22) | skip
    have t26 : (0 : Int32).toInt = 0 := rfl
    exact hQ (0 : Int32) I L w_I q_I 
def Ws_X10_cut : List (Nat × Nat) := [(10, 1)]
set_option maxHeartbeats 4000000 in
set_option maxRecDepth 100000 in
theorem s_X10_cut {Z : jZ} {I : jI} {L : jL} (w_I : WD Z I) (v0 : Nat) (v1 : Int32) (kv0 : jk Z v0 10) {Q : Int32 → jI → jL → Prop} (hQ : ∀ (r : Int32) (I' : jI) (L' : jL), WD Z I' → FR Ws_X10_cut Z I Z I' → Q r I' L') : f_X10_cut v0 v1 Z I L Q := by
  unfold f_X10_cut
  have q_I : FR Ws_X10_cut Z I Z I := FR.rf
  have rv1 := i_rng v1
  refine ⟨fun c1 => ?_, fun c1 => ?_⟩
  · skip
    first | (have t2 : v1.toInt < (0) := (i_lt rfl (show (0 : Int32).toInt = 0 from rfl)).mp c1) | (have t2 : v1.toInt < (0 : Int32).toInt := (i_lt rfl rfl).mp c1) | skip
    have t3 : (0 : Int32).toInt = 0 := rfl
    exact hQ (0 : Int32) I L w_I q_I 
  · skip
    first | (have t4 : ¬ (v1.toInt < (0)) := (not_congr (i_lt rfl (show (0 : Int32).toInt = 0 from rfl))).mp c1) | (have t4 : ¬ (v1.toInt < (0 : Int32).toInt) := (not_congr (i_lt rfl rfl)).mp c1) | skip
    have t6 : 0 ≤ (I v0 1).toInt ∧ (I v0 1).toInt ≤ 80 := w_I.fld 10 1 kv0 (by decide)
    refine ⟨fun c7 => ?_, fun c7 => ?_⟩
    · skip
      first | (have t8 : v1.toInt ≤ (I v0 1).toInt := (i_le rfl rfl).mp c7) | (have t8 : v1.toInt ≤ (I v0 1).toInt := (i_le rfl rfl).mp c7) | skip
      intro I9 eI9
      have w_I9 : WD Z I9 := by rw [eI9]; exact WD_putF w_I 10 1 kv0 (by decide) (by decide) (by constructor <;> omega)
      have f_I9 : FR [(10, 1)] Z I Z I9 := by rw [eI9]; exact FR_putF kv0 (by decide) List.mem_cons_self
      have q_I9 : FR Ws_X10_cut Z I Z I9 := q_I.trans w_I.1 w_I.2.1 (f_I9.mono (by decide))
      first | (have u10 : (I9 v0 1).toInt = v1.toInt := by (rw [eI9, show jpI I v0 1 v1 v0 1 = v1 from jpI_at] <;> exact rfl)) | skip
      have t11 : (1 : Int32).toInt = 1 := rfl
      exact hQ (1 : Int32) I9 L w_I9 q_I9 
    · skip
      first | (have t12 : ¬ (v1.toInt ≤ (I v0 1).toInt) := (not_congr (i_le rfl rfl)).mp c7) | (have t12 : ¬ (v1.toInt ≤ (I v0 1).toInt) := (not_congr (i_le rfl rfl)).mp c7) | skip
      have t13 : (0 : Int32).toInt = 0 := rfl
      exact hQ (0 : Int32) I L w_I q_I 
def Ws_X10_clear : List (Nat × Nat) := [(10, 1)]
set_option maxHeartbeats 4000000 in
set_option maxRecDepth 100000 in
theorem s_X10_clear {Z : jZ} {I : jI} {L : jL} (w_I : WD Z I) (v0 : Nat) (kv0 : jk Z v0 10) {Q : jI → jL → Prop} (hQ : ∀  (I' : jI) (L' : jL), WD Z I' → FR Ws_X10_clear Z I Z I' → Q I' L') : f_X10_clear v0 Z I L Q := by
  unfold f_X10_clear
  have q_I : FR Ws_X10_clear Z I Z I := FR.rf
  intro I1 eI1
  have t2 : (0 : Int32).toInt = 0 := rfl
  have w_I1 : WD Z I1 := by rw [eI1]; exact WD_putF w_I 10 1 kv0 (by decide) (by decide) (by constructor <;> omega)
  have f_I1 : FR [(10, 1)] Z I Z I1 := by rw [eI1]; exact FR_putF kv0 (by decide) List.mem_cons_self
  have q_I1 : FR Ws_X10_clear Z I Z I1 := q_I.trans w_I.1 w_I.2.1 (f_I1.mono (by decide))
  first | (have u3 : (I1 v0 1).toInt = (0) := by (rw [eI1, show jpI I v0 1 (0 : Int32) v0 1 = (0 : Int32) from jpI_at] <;> exact (show (0 : Int32).toInt = 0 from rfl))) | skip
  exact hQ  I1 L w_I1 q_I1 
